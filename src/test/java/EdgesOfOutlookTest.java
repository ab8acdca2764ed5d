/** The edges of promises 13 to 18, each in a part of its own: settle, best, ratio, graded, waits, count. */
final class EdgesOfOutlookTest {
    private static final Check CHECK = new Check("EdgesOfOutlookTest");
    private static final Twins TWINS = new Twins(CHECK);
    private static final int BAD = TapCascade.BAD, NONE = TapCascade.NONE;
    private static final int MIN = Integer.MIN_VALUE, MAX = Integer.MAX_VALUE;
    private static final String STAGE = "s1,1000,1,1,0,0,0;";
    /** Steps at each tick, down and up in turn: outs 1010 and 959. */
    private static final String SWING = "s50,1000,1,1,0,0,0;";
    /** Found by search; that it is quiet behind 315 ticks is seen here by ticking. */
    private static final String LATE_QUIET =
            "v1182;s33,908,95,9,0,-36,1;s28,1140,6,9,2,-18,3;s14,1051,97,9,2,-49,2;s24,998,82,9,2,-22,5;";
    /** Found by search: behind 301 ticks all is as behind 31. */
    private static final String LATE_ROUND = "v943;s28,1028,3,9,0,-30,9;s13,1047,3,2,0,9,8;s3,960,15,5,0,-16,4;";

    public static void main(String[] args) {
        settleWhat();
        settleQuietBehindNoneAndOne();
        settleQuietBehind300And301();
        settleRoundBehind300And301();
        settleShortestRound();
        settleByWhatWasWanted();
        settleByTapsFarApart();
        settleWhatCanNot();
        settleAt9999();
        settleChangesNothing();
        bestStages();
        bestAtTheEndsOfTheTap();
        bestOfSeveral();
        bestByWhatIsLost();
        bestOfStuckOnes();
        bestIsNotByTapsAsTheyAre();
        ratioStages();
        ratioPart();
        ratioAtTheEndsOfTheTap();
        ratioInLowestTerms();
        ratioBeyondAnInt();
        gradedLeastAndMost();
        gradedByJustSoMuch();
        gradedOfOneStage();
        gradedAtEachPlace();
        waitsStages();
        waitsLeastAndMost();
        waitsAreNotLess();
        waitsGoBeyondNine();
        countWhat();
        countStagesAndSource();
        countTicksAndSteps();
        countBack();
        countGoodStuckOff();
        countChangesAndLetters();
        countQuiet();
        countUnlike();
        askingChangesNothing();
        CHECK.end();
    }

    private static TapCascade ticked(String text, int ticks) {
        TapCascade x = Check.laid(text);
        for (int left = ticks; left > 0; left -= 50) {
            x.tick(Math.min(left, 50));
        }
        return x;
    }

    // ---- promise 13

    private static void settleWhat() {
        CHECK.of("13, what is asked");
        CHECK.settled(Check.laid("v1010;" + SWING), NONE, 0, 2, 2);
        for (int what : new int[] {-1, 4, MIN, MAX}) {
            TWINS.refused("settle(" + what + ")", x -> x.settle(what), BAD);
            CHECK.due("BAD ahead of NONE", Check.laid(LATE_QUIET).settle(what), BAD);
        }
    }

    private static void settleQuietBehindNoneAndOne() {
        CHECK.of("13, quiet behind no tick, behind one");
        TapCascade x = Check.laid("v900;s50,940,20,1,0,0,0;");
        CHECK.settled(x, 1, NONE, NONE, NONE);
        CHECK.due("tick(1)", x.tick(1), 1);
        CHECK.settled(x, 0, NONE, NONE, NONE);
        CHECK.due("tick(1)", x.tick(1), 0);
        CHECK.settled(x, 0, NONE, NONE, NONE);
    }

    private static void settleQuietBehind300And301() {
        CHECK.of("13, quiet behind 300 ticks, behind 301");
        CHECK.due("count(10) behind 314", ticked(LATE_QUIET, 314).count(10), 0);
        CHECK.due("count(10) behind 315", ticked(LATE_QUIET, 315).count(10), 1);
        for (int ticks : new int[] {0, 1, 13, 14}) {
            CHECK.settled(ticked(LATE_QUIET, ticks), NONE, NONE, NONE, NONE);
        }
        for (int ticks : new int[] {15, 16, 314, 315}) {
            CHECK.settled(ticked(LATE_QUIET, ticks), 315 - ticks, NONE, NONE, NONE);
        }
    }

    private static void settleRoundBehind300And301() {
        CHECK.of("13, all comes again behind 300 ticks, behind 301");
        sameTapsAndCounts(ticked(LATE_ROUND, 31), ticked(LATE_ROUND, 301));
        CHECK.settled(ticked(LATE_ROUND, 0), NONE, NONE, NONE, NONE);
        int steps = ticked(LATE_ROUND, 301).count(3) - ticked(LATE_ROUND, 31).count(3);
        for (int ticks : new int[] {1, 2, 30, 31, 32, 301}) {
            CHECK.settled(ticked(LATE_ROUND, ticks), NONE, Math.max(31 - ticks, 0), 270, steps);
        }
        CHECK.due("steps in the round", steps, 160);
    }

    private static void sameTapsAndCounts(TapCascade one, TapCascade other) {
        for (int i = 0; i < one.count(0); i++) {
            CHECK.stage(other, i, 7, one.stage(i, 7), 14, one.stage(i, 14));
        }
    }

    private static void settleShortestRound() {
        CHECK.of("13, the shortest round, by the least wait and the most");
        CHECK.settled(Check.laid("v1010;s50,1000,1,1,0,0,0;"), NONE, 0, 2, 2);
        CHECK.settled(Check.laid("v1010;s50,1000,1,9,0,0,0;"), NONE, 0, 18, 2);
        CHECK.settled(Check.laid("v1010;" + SWING.repeat(4)), NONE, 0, 2, 8);
        // from 900 by 945 to 990: two ticks ahead of the round
        CHECK.settled(Check.laid("v900;" + SWING), NONE, 2, 2, 2);
    }

    private static void settleByWhatWasWanted() {
        CHECK.of("13, all but what was wanted is as it was");
        // it wanted down at a count of 1 and wants up now: behind one tick the count is 1 again, the way is not
        TapCascade x = Check.laid("v1010;s50,1000,1,2,0,0,0;");
        x.tick(1);
        x.source(960);
        CHECK.stage(x, 0, 7, 1000, 14, 1);
        CHECK.settled(x, NONE, 1, 4, 2);
        x.tick(1);
        CHECK.stage(x, 0, 7, 1000, 14, 1);
        CHECK.settled(x, NONE, 0, 4, 2);
    }

    private static void settleByTapsFarApart() {
        CHECK.of("13, all but one tap is as it was");
        // the first is stuck and low for ever; its count and the other's go round alike while the other's tap goes from end to end
        for (int wait = 1; wait <= 9; wait++) {
            String stage = "s1,1200,1," + wait + ",0,0,0;";
            TapCascade up = Check.laid("v800;" + stage + stage);
            up.stick(0, 1);
            up.tell(1, 1, 995);
            CHECK.settled(up, 10 * wait, NONE, NONE, NONE);
            String high = "s1,800,1," + wait + ",0,0,0;";
            TapCascade down = Check.laid("v1200;" + high + high);
            down.stick(0, 1);
            down.tell(1, 1, 1005);
            CHECK.settled(down, 10 * wait, NONE, NONE, NONE);
        }
    }

    private static void settleWhatCanNot() {
        CHECK.of("13, quiet, though one wants what it can not");
        TapCascade stuck = Check.laid("v1010;" + SWING);
        stuck.stick(0, 1);
        CHECK.settled(stuck, 0, NONE, NONE, NONE);
        TapCascade atTheEnd = Check.laid("v900;" + STAGE);
        CHECK.settled(atTheEnd, 5, NONE, NONE, NONE);
        atTheEnd.tell(0, 1, 1004);
        CHECK.settled(atTheEnd, 1, NONE, NONE, NONE);
        atTheEnd.tell(0, 1, 1005);
        CHECK.settled(atTheEnd, 0, NONE, NONE, NONE);
    }

    private static void settleAt9999() {
        CHECK.of("13, ticks that would be more than 9999");
        CHECK.settled(ticked("v1010;" + SWING, 9999), NONE, 0, 2, 2);
        TapCascade x = ticked("v1000;" + STAGE, 9999);
        x.source(900);
        CHECK.settled(x, 5, NONE, NONE, NONE);
    }

    private static void settleChangesNothing() {
        CHECK.of("13, nothing changes by it");
        for (int what = 0; what < 4; what++) {
            int w = what;
            TWINS.changesNothing(Twins::busy, "settle(" + what + ")", x -> x.settle(w));
            TWINS.changesNothing(() -> ticked(LATE_QUIET, 20), "settle(" + what + ") of 295 ticks", x -> x.settle(w));
            TWINS.changesNothing(() -> ticked("v1010;" + SWING, 9999), "settle(" + what + ") at 9999", x -> x.settle(w));
        }
    }

    // ---- promise 14

    private static void bestStages() {
        CHECK.of("14, stages such as there are, and -1");
        for (int size = 1; size <= 4; size++) {
            String text = STAGE.repeat(size);
            TapCascade x = Check.laid(text);
            CHECK.due("best(-1)", x.best(-1), 0);
            for (int i = 0; i < size; i++) {
                CHECK.due("best(" + i + ")", x.best(i), 1000);
            }
            for (int i : new int[] {-2, size, size + 1, MIN, MAX}) {
                TWINS.refusedOn(() -> Check.laid(text), "best(" + i + ") of " + size, y -> y.best(i), BAD);
            }
        }
    }

    private static void bestAtTheEndsOfTheTap() {
        CHECK.of("14, the least and the most tap");
        // 1000 by 1.2 and 960 by 1.25 are 1200; 800 by 1.25 is but 1000, 1200 by 0.75 still 900
        best("v1000;s50,1200,1,1,0,0,0;", 0, 4);
        best("v960;s50,1200,1,1,0,0,0;", 0, 5);
        best("v800;s50,1200,1,1,0,0,0;", 200, 5);
        best("v1000;s50,800,1,1,0,0,0;", 0, -4);
        best("v1200;s50,800,1,1,0,0,0;", 100, -5);
        // all four at an end: 800 by 1.005 is 804, 808.02, 812.04, 816.06
        best("v800;" + "s1,1200,1,1,0,0,0;".repeat(4), 396 + 392 + 388 + 384, 5, 5, 5, 5);
        // 1200 by 0.995 is 1194, 1188.03, 1182.06, 1176.09
        best("v1200;" + "s1,800,1,1,0,0,0;".repeat(4), 394 + 388 + 382 + 376, -5, -5, -5, -5);
    }

    private static void best(String text, int off, int... taps) {
        best(Check.laid(text), off, taps);
    }

    private static void best(TapCascade x, int off, int... taps) {
        CHECK.due("best(-1)", x.best(-1), off);
        for (int i = 0; i < taps.length; i++) {
            CHECK.due("best(" + i + ")", x.best(i), taps[i] + TapCascade.ZERO);
        }
    }

    private static void bestOfSeveral() {
        CHECK.of("14, the first of several");
        // 950 and 1000 are as far from 975; one more or less decides
        best("v1000;s50,975,1,1,0,0,0;", 25, -1);
        best("v1000;s50,974,1,1,0,0,0;", 24, -1);
        best("v1000;s50,976,1,1,0,0,0;", 24, 0);
        // behind either the second can be right: the lower tap of the first one comes ahead, not of the second
        best("v1000;s50,975,1,1,0,0,0;s50,950,1,1,0,0,0;", 25, -1, 0);
        // of the last one, too: 1000 and 1050 are as far from 1025
        best("v1000;s50,1000,1,1,0,0,0;s50,1025,1,1,0,0,0;", 25, 0, 0);
        // by the cut 800 and 800.8 are alike
        best("v800;s1,800,1,1,0,0,0;", 0, 0);
    }

    private static void bestByWhatIsLost() {
        CHECK.of("14, by what is lost on the way, and what is more when power flows back");
        // 1000 less 45 is 955, by 1.05 1002 and by 1.1 1050; 1000 and 45 are 1045, by 0.95 992 and by 0.9 940
        best("v1000;s50,1000,1,1,0,0,9;s50,1002,1,1,0,50,0;", 0, 0, 1);
        best("v1000;s50,1000,1,1,0,0,9;s50,940,1,1,0,-50,0;", 0, 0, -2);
    }

    private static void bestOfStuckOnes() {
        CHECK.of("14, none stuck, one stuck, all stuck");
        String text = "v1000;s50,975,1,1,0,0,0;s50,950,1,1,0,0,0;";
        TapCascade x = Check.laid(text);
        x.stick(0, 1);
        best(x, 25, 0, -1);
        x.tell(0, 1, 1005);
        // 1250; at tap -5 behind it 937
        best(x, 275 + 13, 5, -5);
        x.stick(1, 1);
        best(x, 275 + 300, 5, 0);
        CHECK.due("count(7)", x.count(7), 275 + 300);
        x.stick(0, 0);
        // the second stays at 0: 950 is 25 and 0 off
        best(x, 25, -1, 0);
        TapCascade low = Check.laid(text);
        low.tell(0, 1, 995);
        low.stick(0, 1);
        // 750; at tap 5 behind it 937
        best(low, 225 + 13, -5, 5);
    }

    private static void bestIsNotByTapsAsTheyAre() {
        CHECK.of("14, taps that are not stuck count for nothing");
        TapCascade x = Check.laid("v1000;s50,975,1,1,0,0,0;s50,950,1,1,0,0,0;");
        for (int tap = 995; tap <= 1005; tap++) {
            x.tell(0, 1, tap);
            x.tell(1, 1, 2000 - tap);
            best(x, 25, -1, 0);
        }
    }

    // ---- promise 15

    private static void ratioStages() {
        CHECK.of("15, stages such as there are");
        for (int size = 1; size <= 4; size++) {
            String text = STAGE.repeat(size);
            CHECK.due("ratio(0, 0)", Check.laid(text).ratio(0, 0), 1);
            CHECK.due("ratio of the last", Check.laid(text).ratio(size - 1, 1), 1);
            for (int i : new int[] {-1, size, size + 1, MIN, MAX}) {
                TWINS.refusedOn(() -> Check.laid(text), "ratio(" + i + ", 0) of " + size, x -> x.ratio(i, 0), BAD);
                TWINS.refusedOn(() -> Check.laid(text), "ratio(" + i + ", 1) of " + size, x -> x.ratio(i, 1), BAD);
            }
        }
    }

    private static void ratioPart() {
        CHECK.of("15, above and below");
        for (int part : new int[] {-1, 2, MIN, MAX}) {
            TWINS.refused("ratio(0, " + part + ")", x -> x.ratio(0, part), BAD);
            TWINS.refused("ratio(2, " + part + ")", x -> x.ratio(2, part), BAD);
        }
        ratio(tapped("s50,1000,1,1,0,0,0;", 1), 0, 21, 20);
    }

    private static TapCascade tapped(String text, int... taps) {
        TapCascade x = Check.laid(text);
        for (int i = 0; i < taps.length; i++) {
            x.tell(i, 1, taps[i] + TapCascade.ZERO);
        }
        return x;
    }

    private static void ratio(TapCascade x, int i, long above, long below) {
        CHECK.due("ratio(" + i + ", 0)", x.ratio(i, 0), above);
        CHECK.due("ratio(" + i + ", 1)", x.ratio(i, 1), below);
    }

    private static void ratioAtTheEndsOfTheTap() {
        CHECK.of("15, the least and the most tap by the least and the most step");
        ratio(tapped("s50,1000,1,1,0,0,0;", 5), 0, 5, 4);
        ratio(tapped("s50,1000,1,1,0,0,0;", -5), 0, 3, 4);
        ratio(tapped("s1,1000,1,1,0,0,0;", 5), 0, 201, 200);
        ratio(tapped("s1,1000,1,1,0,0,0;", -5), 0, 199, 200);
        ratio(tapped("s1,1000,1,1,0,0,0;", 1), 0, 1001, 1000);
        ratio(tapped("s1,1000,1,1,0,0,0;", -1), 0, 999, 1000);
        TapCascade up = tapped(SWING.repeat(4), 5, 5, 5, 5);
        TapCascade down = tapped(SWING.repeat(4), -5, -5, -5, -5);
        long fives = 1;
        long threes = 1;
        long fours = 1;
        for (int i = 0; i < 4; i++) {
            fives *= 5;
            threes *= 3;
            fours *= 4;
            ratio(up, i, fives, fours);
            ratio(down, i, threes, fours);
        }
    }

    private static void ratioInLowestTerms() {
        CHECK.of("15, in lowest terms");
        // 5/4 by 4/5 is whole, though no tap is 0
        TapCascade x = tapped(SWING.repeat(3), 5, -4, 2);
        ratio(x, 0, 5, 4);
        ratio(x, 1, 1, 1);
        ratio(x, 2, 11, 10);
        ratio(Check.laid(SWING), 0, 1, 1);
    }

    private static void ratioBeyondAnInt() {
        CHECK.of("15, more than an int");
        // 1147 is 31 times 37 and 853 is prime: nothing goes out against 1000
        String step = "s49,1000,1,1,0,0,0;";
        ratio(tapped(step.repeat(4), 3, 3, 3, 3), 3, 1730827040881L, 1000000000000L);
        ratio(tapped(step.repeat(4), -3, -3, -3, -3), 3, 529414856881L, 1000000000000L);
        ratio(tapped(step.repeat(4), 3, 3, 3, 3), 2, 1509003523L, 1000000000L);
    }

    // ---- promise 16

    private static void gradedLeastAndMost() {
        CHECK.of("16, the least and the most g");
        CHECK.due("graded(0)", new TapCascade().graded(0), 1);
        CHECK.due("graded(9)", new TapCascade().graded(9), 0);
        for (int g : new int[] {-1, 10, MIN, MAX}) {
            TWINS.refused("graded(" + g + ")", x -> x.graded(g), BAD);
        }
    }

    private static TapCascade waiting(int... waits) {
        StringBuilder text = new StringBuilder();
        for (int wait : waits) {
            text.append("s1,1000,1,").append(wait).append(",0,0,0;");
        }
        return Check.laid(text.toString());
    }

    private static void gradedByJustSoMuch() {
        CHECK.of("16, just so much, one less");
        for (int wait = 1; wait <= 9; wait++) {
            for (int g = 0; g <= 9; g++) {
                CHECK.due("graded(" + g + ") of 1 " + wait, waiting(1, wait).graded(g), wait >= 1 + g ? 1 : 0);
            }
        }
        CHECK.due("graded(0) of 9 8", waiting(9, 8).graded(0), 0);
        CHECK.due("graded(0) of 9 9", waiting(9, 9).graded(0), 1);
        CHECK.due("graded(1) of 9 9", waiting(9, 9).graded(1), 0);
    }

    private static void gradedOfOneStage() {
        CHECK.of("16, one stage has none ahead");
        for (int g = 0; g <= 9; g++) {
            CHECK.due("graded(" + g + ") of 9", waiting(9).graded(g), 1);
            CHECK.due("graded(" + g + ") of 1", waiting(1).graded(g), 1);
        }
    }

    private static void gradedAtEachPlace() {
        CHECK.of("16, the first pair and the last");
        CHECK.due("graded(2) of 1 3 5 7", waiting(1, 3, 5, 7).graded(2), 1);
        CHECK.due("graded(3) of 1 3 5 7", waiting(1, 3, 5, 7).graded(3), 0);
        CHECK.due("graded(2) of 2 3 5 7", waiting(2, 3, 5, 7).graded(2), 0);
        CHECK.due("graded(2) of 1 3 4 7", waiting(1, 3, 4, 7).graded(2), 0);
        CHECK.due("graded(2) of 1 3 5 6", waiting(1, 3, 5, 6).graded(2), 0);
    }

    // ---- promise 17

    private static void waitsStages() {
        CHECK.of("17, stages such as there are");
        for (int size = 1; size <= 4; size++) {
            String text = STAGE.repeat(size);
            CHECK.due("waits(0, 1)", Check.laid(text).waits(0, 1), 1);
            CHECK.due("waits of the last", Check.laid(text).waits(size - 1, 1), size);
            for (int i : new int[] {-1, size, size + 1, MIN, MAX}) {
                TWINS.refusedOn(() -> Check.laid(text), "waits(" + i + ", 1) of " + size, x -> x.waits(i, 1), BAD);
            }
        }
    }

    private static void waitsLeastAndMost() {
        CHECK.of("17, the least and the most g");
        CHECK.due("waits(1, 0)", waiting(4, 4).waits(1, 0), 4);
        CHECK.due("waits(1, 9)", waiting(4, 4).waits(1, 9), 13);
        for (int g : new int[] {-1, 10, MIN, MAX}) {
            TWINS.refused("waits(0, " + g + ")", x -> x.waits(0, g), BAD);
            TWINS.refused("waits(2, " + g + ")", x -> x.waits(2, g), BAD);
        }
    }

    private static void waitsAreNotLess() {
        CHECK.of("17, not less than it has");
        int[][] due = {{3, 9, 9, 9}, {3, 9, 10, 11}, {3, 9, 11, 13}};
        for (int g = 0; g < due.length; g++) {
            for (int i = 0; i < 4; i++) {
                CHECK.due("waits(" + i + ", " + g + ") of 3 9 1 9", waiting(3, 9, 1, 9).waits(i, g), due[g][i]);
            }
        }
        CHECK.due("waits(1, 5) of 1 6", waiting(1, 6).waits(1, 5), 6);
        CHECK.due("waits(1, 5) of 1 7", waiting(1, 7).waits(1, 5), 7);
        CHECK.due("waits(1, 5) of 1 5", waiting(1, 5).waits(1, 5), 6);
        CHECK.due("waits(0, 9) of 9 1: the one ahead is not more by the one behind", waiting(9, 1).waits(0, 9), 9);
    }

    private static void waitsGoBeyondNine() {
        CHECK.of("17, more than the most that can be told");
        for (int i = 0; i < 4; i++) {
            CHECK.due("waits(" + i + ", 9) of 9 9 9 9", waiting(9, 9, 9, 9).waits(i, 9), 9 + 9 * i);
            CHECK.due("waits(" + i + ", 0) of 1 1 1 1", waiting(1, 1, 1, 1).waits(i, 0), 1);
        }
    }

    // ---- promise 18

    private static void countWhat() {
        CHECK.of("18, what is asked");
        CHECK.due("count(0)", new TapCascade().count(0), 4);
        CHECK.due("count(11)", new TapCascade().count(11), 0);
        for (int what : new int[] {-1, 12, 13, MIN, MAX}) {
            TWINS.refused("count(" + what + ")", x -> x.count(what), BAD);
        }
    }

    private static void countStagesAndSource() {
        CHECK.of("18, stages, the source");
        for (int size = 1; size <= 4; size++) {
            CHECK.due("count(0)", Check.laid(STAGE.repeat(size)).count(0), size);
        }
        CHECK.due("count(1)", Check.laid("v800;" + STAGE).count(1), 800);
        CHECK.due("count(1)", Check.laid("v1200;" + STAGE).count(1), 1200);
    }

    private static void countTicksAndSteps() {
        CHECK.of("18, ticks and steps");
        for (int ticks : new int[] {0, 1, 19, 20, 21, 50, 9999}) {
            TapCascade x = ticked("v1010;" + SWING, ticks);
            CHECK.due("count(2)", x.count(2), ticks);
            CHECK.due("count(3)", x.count(3), ticks);
            CHECK.due("count(4)", x.count(4), Math.max(ticks - 1, 0));
            CHECK.due("count(11)", x.count(11), Math.min(ticks, 2));
        }
        CHECK.due("count(3) of four", ticked("v1010;" + SWING.repeat(4), 9999).count(3), 4 * 9999);
        CHECK.due("count(4) of four", ticked("v1010;" + SWING.repeat(4), 9999).count(4), 4 * 9998);
    }

    private static void countBack() {
        CHECK.of("18, done back, though the one ahead of it is no longer told");
        TapCascade x = Check.laid("v1010;" + SWING + "s1,985,99,1,0,0,0;");
        x.source(800);
        CHECK.due("tick(1): both up", x.tick(1), 2);
        CHECK.due("count(4)", x.count(4), 0);
        x.source(1010);
        x.tell(0, 1, 1000);
        CHECK.due("tick(24) of the first one alone", x.tick(24), 24);
        CHECK.due("count(4)", x.count(4), 24);
        for (int k = 0; k < 20; k++) {
            CHECK.due("done(" + k + ", 1)", x.done(k, 1), 0);
        }
        x.source(1200);
        CHECK.due("tick(1): both down", x.tick(1), 2);
        CHECK.due("count(4)", x.count(4), 26);
        CHECK.of("18, not done back, the same way again or of another stage");
        CHECK.due("count(4)", ticked("v900;" + STAGE, 5).count(4), 0);
        TapCascade two = ticked("v1000;s10,1100,1,1,0,0,0;s10,900,1,1,0,0,0;", 3);
        CHECK.due("count(3)", two.count(3), 6);
        CHECK.due("count(4)", two.count(4), 0);
    }

    private static void countGoodStuckOff() {
        CHECK.of("18, good, stuck, off: none to all");
        TapCascade x = Check.laid("v1000;s1,1000,1,1,0,0,0;s1,1002,2,1,0,0,0;s1,997,3,1,0,0,0;s1,1004,4,1,0,0,0;");
        // the fewer the bands still hold, the farther the source goes
        int[][] due = {{1000, 4, 0 + 2 + 3 + 4}, {1001, 3, 1 + 1 + 4 + 3}, {1002, 2, 2 + 0 + 5 + 2}, {1005, 1, 5 + 3 + 8 + 1},
            {1009, 0, 9 + 7 + 12 + 5}};
        for (int[] d : due) {
            x.source(d[0]);
            CHECK.due("count(5) by " + d[0], x.count(5), d[1]);
            CHECK.due("count(7) by " + d[0], x.count(7), d[2]);
        }
        for (int i = 0; i < 4; i++) {
            CHECK.due("count(6)", x.count(6), i);
            x.stick(i, 1);
        }
        CHECK.due("count(6)", x.count(6), 4);
        CHECK.due("count(7) of none off", Check.laid(STAGE.repeat(4)).count(7), 0);
    }

    private static void countChangesAndLetters() {
        CHECK.of("18, changes: none to six");
        TapCascade x = new TapCascade();
        for (int k = 0; k < 9; k++) {
            CHECK.due("count(8)", x.count(8), Math.min(k, 6));
            x.tick(1);
        }
        CHECK.of("18, letters: none to 200");
        TapCascade y = new TapCascade();
        for (int k = 0; k < 202; k++) {
            CHECK.due("count(9)", y.count(9), Math.min(k, 200));
            y.write('v');
        }
    }

    private static void countQuiet() {
        CHECK.of("18, quiet or not");
        TapCascade x = Check.laid("v999;" + STAGE.repeat(4));
        CHECK.due("count(10)", x.count(10), 1);
        x.source(998);
        CHECK.due("count(10)", x.count(10), 0);
        for (int i = 0; i < 4; i++) {
            CHECK.due("count(10) of " + i + " stuck", x.count(10), 0);
            x.stick(i, 1);
        }
        CHECK.due("count(10) of four stuck", x.count(10), 1);
        x.stick(3, 0);
        CHECK.due("count(10): the last one can", x.count(10), 0);
        CHECK.of("18, quiet is by what can, not by counts");
        TapCascade y = ticked("v900;s10,1000,5,9,0,0,0;", 8);
        y.source(1000);
        CHECK.stage(y, 0, 14, 8);
        CHECK.due("count(10)", y.count(10), 1);
    }

    private static void countUnlike() {
        CHECK.of("18, unlike steps: none to eight");
        TapCascade x = Check.laid("v1010;" + SWING.repeat(4));
        int[] due = {0, 4, 8, 8, 8, 8, 8, 8};
        for (int k = 0; k < due.length; k++) {
            CHECK.due("count(11) behind " + k, x.count(11), due[k]);
            x.tick(1);
        }
        CHECK.of("18, unlike steps: one that falls out of the twenty");
        // the second one steps once; it is told till twenty of the first one came behind it
        TapCascade y = Check.laid("v800;" + SWING + "s1,985,99,1,0,0,0;");
        CHECK.due("tick(1)", y.tick(1), 2);
        y.source(1010);
        y.tell(0, 1, 1000);
        CHECK.due("count(11)", y.count(11), 2);
        for (int k = 1; k <= 21; k++) {
            y.tick(1);
            CHECK.due("count(11) behind " + k + " more", y.count(11), k < 20 ? 3 : 2);
        }
    }

    private static void askingChangesNothing() {
        CHECK.of("14 to 18, asking changes nothing");
        TWINS.changesNothing(Twins::busy, "best", x -> x.best(-1) + x.best(0) + x.best(2));
        TWINS.changesNothing(Twins::busy, "ratio", x -> x.ratio(0, 0) + x.ratio(2, 1));
        TWINS.changesNothing(Twins::busy, "graded", x -> x.graded(0) + x.graded(9));
        TWINS.changesNothing(Twins::busy, "waits", x -> x.waits(0, 0) + x.waits(2, 9));
        TWINS.changesNothing(Twins::spoilt, "count", EdgesOfOutlookTest::countAll);
    }

    private static long countAll(TapCascade x) {
        long all = 0;
        for (int what = 0; what < 12; what++) {
            all += x.count(what);
        }
        return all;
    }
}
