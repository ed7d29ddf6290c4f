/** Promises 1 to 5: a new object, set, arrive, turn, and the bounds of pass. */
public final class ChangesTest {
    private static final int[] LOWEST = {0, 0, 0, 0, 1, 1, 0, 0};
    private static final int[] HIGHEST = {9, 5, 5, 20, 20, 60, 9, 9};
    private static final int[] AT_FIRST = {3, 2, 2, 4, 6, 20, 1, 2};

    public static void main(String[] args) {
        aNewObjectIsEmpty();
        objectsHaveNothingInCommon();
        setKeepsToTheRanges();
        setLeavesReportsOnTheirWay();
        arriveTakesLengthsFrom4To30();
        arriveWantsTheLatestBackAt1();
        arriveTakesEightBoxes();
        arriveTellsTheNumberOnTheBelt();
        turnRoundsDown();
        turnNamesItsErrorsInOrder();
        turnLeavesAGapOf1();
        turnDoesNotLetABoxBeSeenAgain();
        passKeepsToItsBounds();
        passTellsHowManyLeave();
        Due.end();
    }

    private static void aNewObjectIsEmpty() {
        BeltMarks marks = new BeltMarks();
        int[] first = {0, 0, 0, 0, 0, 0, 0, 0, 0, 0, 20, 0, 0, 0, 3, 2, 2, 4, 6, 20, 1, 2, 0, 0};
        for (int what = 0; what < first.length; what++) {
            Due.is("new: count(" + what + ")", marks.count(what), first[what]);
        }
        Due.is("new: box", marks.box(0, 0), BeltMarks.NO_SUCH);
        Due.is("new: plan", marks.plan(0), BeltMarks.NO_SUCH);
        Due.is("new: report", marks.report(0, 0), BeltMarks.NO_SUCH);
        Due.is("new: fault", marks.fault(), 0);
        Due.is("new: undo", marks.undo(), BeltMarks.NOT_POSSIBLE);
        Due.is("new: restore(0)", marks.restore(0), BeltMarks.NOT_POSSIBLE);
        Due.is("new: restore(1)", marks.restore(1), BeltMarks.NOT_POSSIBLE);
    }

    private static void objectsHaveNothingInCommon() {
        BeltMarks one = new BeltMarks();
        BeltMarks other = new BeltMarks();
        one.set(BeltMarks.SPEED, 9);
        one.arrive(10);
        one.pass(5);
        one.put('b');
        one.save(0);
        Due.is("the other: SPEED", other.count(14), 3);
        Due.is("the other: boxes", other.count(1), 0);
        Due.is("the other: ticks", other.count(0), 0);
        Due.is("the other: pad", other.count(22), 0);
        Due.is("the other: slot", other.restore(0), BeltMarks.NOT_POSSIBLE);
    }

    private static void setKeepsToTheRanges() {
        for (int setting = 0; setting < 8; setting++) {
            BeltMarks marks = new BeltMarks();
            String call = "set(" + setting + ", ..)";
            Due.is(call + " below", marks.set(setting, LOWEST[setting] - 1), BeltMarks.BAD_VALUE);
            Due.is(call + " above", marks.set(setting, HIGHEST[setting] + 1), BeltMarks.BAD_VALUE);
            Due.is(call + " far below", marks.set(setting, Integer.MIN_VALUE), BeltMarks.BAD_VALUE);
            Due.is(call + " far above", marks.set(setting, Integer.MAX_VALUE), BeltMarks.BAD_VALUE);
            Due.is(call + " errors change nothing", marks.count(14 + setting), AT_FIRST[setting]);
            Due.is(call + " errors record nothing", marks.count(23), 0);
            Due.is(call + " lowest", marks.set(setting, LOWEST[setting]), AT_FIRST[setting]);
            Due.is(call + " highest", marks.set(setting, HIGHEST[setting]), LOWEST[setting]);
            Due.is(call + " then", marks.count(14 + setting), HIGHEST[setting]);
            for (int other = 0; other < 8; other++) {
                if (other != setting) {
                    Due.is(call + " leaves " + other, marks.count(14 + other), AT_FIRST[other]);
                }
            }
        }
        BeltMarks marks = new BeltMarks();
        Due.is("set(-1, 1)", marks.set(-1, 1), BeltMarks.BAD_VALUE);
        Due.is("set(8, 1)", marks.set(8, 1), BeltMarks.BAD_VALUE);
        Due.is("set(MIN, 1)", marks.set(Integer.MIN_VALUE, 1), BeltMarks.BAD_VALUE);
        Due.is("set(MAX, 1)", marks.set(Integer.MAX_VALUE, 1), BeltMarks.BAD_VALUE);
    }

    private static void setLeavesReportsOnTheirWay() {
        BeltMarks marks = new BeltMarks();
        marks.set(BeltMarks.SPEED, 9);
        marks.set(BeltMarks.LATE, 5);
        marks.arrive(4);
        marks.pass(1);
        marks.arrive(4);
        marks.pass(2);
        Due.is("late: comes", marks.report(0, 0), 5);
        marks.set(BeltMarks.LATE, 0);
        Due.is("late: comes as it was to come", marks.report(0, 0), 5);
        marks.pass(1);
        Due.is("late: the later report comes first", marks.plan(0), 1000 + 44 - 7 - 18);
        Due.is("late: the first one is on its way", marks.report(0, 0), 4);
        Due.is("late: no other report", marks.count(11), 1);
        marks.pass(3);
        Due.is("late: in the next tick", marks.report(0, 0), 1);
        marks.pass(1);
        Due.is("late: it came", marks.count(11), 0);
    }

    private static void arriveTakesLengthsFrom4To30() {
        int[] wrong = {3, 31, 0, -4, Integer.MIN_VALUE, Integer.MAX_VALUE};
        for (int length : wrong) {
            BeltMarks marks = new BeltMarks();
            Due.is("arrive(" + length + ")", marks.arrive(length), BeltMarks.BAD_VALUE);
            Due.is("arrive wrong: boxes", marks.count(1), 0);
            Due.is("arrive wrong: history", marks.count(23), 0);
        }
        for (int length = 4; length <= 30; length++) {
            BeltMarks marks = new BeltMarks();
            Due.is("arrive(" + length + ")", marks.arrive(length), 0);
            Due.is("its front", marks.box(0, 0), 1000);
            Due.is("its length", marks.box(0, 1), length);
            Due.is("boxes", marks.count(1), 1);
            Due.is("arrived", marks.count(2), 1);
            Due.is("history", marks.count(23), 1);
        }
    }

    private static void arriveWantsTheLatestBackAt1() {
        BeltMarks marks = new BeltMarks();
        marks.set(BeltMarks.SPEED, 4);
        marks.arrive(4);
        Due.is("arrive, back -4", marks.arrive(4), BeltMarks.NOT_POSSIBLE);
        Due.is("arrive(3), back -4", marks.arrive(3), BeltMarks.BAD_VALUE);
        marks.pass(1);
        Due.is("arrive, back 0", marks.arrive(4), BeltMarks.NOT_POSSIBLE);
        Due.is("not arrived", marks.count(2), 1);
        Due.is("not recorded", marks.count(23), 3);
        marks.set(BeltMarks.SPEED, 1);
        marks.pass(1);
        Due.is("arrive, back 1", marks.arrive(30), 1);
    }

    private static void arriveTakesEightBoxes() {
        BeltMarks marks = new BeltMarks();
        for (int i = 0; i < 8; i++) {
            Due.is("arrive " + i, marks.arrive(4), i);
            if (i < 7) {
                marks.pass(2);
            }
        }
        Due.is("the ninth, no place for it", marks.arrive(4), BeltMarks.TOO_MANY);
        marks.pass(2);
        Due.is("the ninth", marks.arrive(4), BeltMarks.TOO_MANY);
        Due.is("the ninth, wrong", marks.arrive(31), BeltMarks.BAD_VALUE);
        Due.is("boxes", marks.count(1), 8);
        Due.is("arrived", marks.count(2), 8);
        Due.is("the eighth", marks.box(7, 0), 1006);
        Due.is("the first", marks.box(0, 0), 1048);
        Due.is("no ninth", marks.box(8, 0), BeltMarks.NO_SUCH);
    }

    private static void arriveTellsTheNumberOnTheBelt() {
        BeltMarks marks = new BeltMarks();
        marks.arrive(4);
        marks.pass(2);
        marks.arrive(5);
        Due.is("first leaves", marks.pass(33), 1);
        Due.is("second moved up", marks.box(0, 5), 1);
        Due.is("its length", marks.box(0, 1), 5);
        Due.is("third", marks.arrive(6), 1);
        Due.is("third of all", marks.box(1, 5), 2);
        Due.is("third unmarked", marks.box(1, 3), BeltMarks.NONE);
        Due.is("third unseen", marks.box(1, 2), 0);
        Due.is("arrived", marks.count(2), 3);
        Due.is("boxes", marks.count(1), 2);
    }

    private static void turnRoundsDown() {
        BeltMarks marks = new BeltMarks();
        marks.arrive(10);
        Due.is("10 to 13", marks.turn(0, 13), 1001);
        Due.is("its length", marks.box(0, 1), 13);
        Due.is("13 to 10", marks.turn(0, 10), 999);
        Due.is("10 to 10", marks.turn(0, 10), 999);
        Due.is("10 to 9", marks.turn(0, 9), 998);
        Due.is("9 to 10", marks.turn(0, 10), 998);
        Due.is("10 to 30", marks.turn(0, 30), 1008);
        Due.is("30 to 4", marks.turn(0, 4), 995);
        Due.is("its front", marks.box(0, 0), 995);
        Due.is("7 changes and the arrival", marks.count(23), 6);
    }

    private static void turnNamesItsErrorsInOrder() {
        BeltMarks marks = new BeltMarks();
        Due.is("turn(0, 3) of none", marks.turn(0, 3), BeltMarks.NO_SUCH);
        Due.is("turn(-1, 5)", marks.turn(-1, 5), BeltMarks.NO_SUCH);
        marks.arrive(10);
        Due.is("turn(1, 5)", marks.turn(1, 5), BeltMarks.NO_SUCH);
        Due.is("turn(MAX, 5)", marks.turn(Integer.MAX_VALUE, 5), BeltMarks.NO_SUCH);
        Due.is("turn(MIN, 5)", marks.turn(Integer.MIN_VALUE, 5), BeltMarks.NO_SUCH);
        Due.is("turn(0, 3)", marks.turn(0, 3), BeltMarks.BAD_VALUE);
        Due.is("turn(0, 31)", marks.turn(0, 31), BeltMarks.BAD_VALUE);
        Due.is("turn(0, MIN)", marks.turn(0, Integer.MIN_VALUE), BeltMarks.BAD_VALUE);
        Due.is("turn(0, MAX)", marks.turn(0, Integer.MAX_VALUE), BeltMarks.BAD_VALUE);
        Due.is("nothing recorded", marks.count(23), 1);
        Due.is("nothing turned", marks.box(0, 1), 10);
    }

    private static void turnLeavesAGapOf1() {
        BeltMarks marks = new BeltMarks();
        marks.set(BeltMarks.SPEED, 1);
        marks.arrive(4);
        marks.pass(20);
        marks.arrive(4);
        marks.pass(5);
        Due.is("behind, long", marks.turn(1, 30), 1018);
        Due.is("ahead, gap 0", marks.turn(0, 9), BeltMarks.NOT_POSSIBLE);
        Due.is("ahead unchanged: front", marks.box(0, 0), 1025);
        Due.is("ahead unchanged: length", marks.box(0, 1), 4);
        Due.is("ahead, gap 1", marks.turn(0, 8), 1027);
        Due.is("ahead, gap 1, a wrong length", marks.turn(0, 31), BeltMarks.BAD_VALUE);
        Due.is("behind, shorter", marks.turn(1, 29), 1017);
        Due.is("behind, as long, and a place back", marks.turn(1, 30), 1017);
        Due.is("ahead, gap 1 again", marks.turn(0, 9), 1027);
        Due.is("behind, shorter by 2", marks.turn(1, 28), 1016);
        Due.is("ahead, gap 1 once more", marks.turn(0, 11), 1028);
        Due.is("behind, gap 0", marks.turn(1, 30), BeltMarks.NOT_POSSIBLE);
        Due.is("behind, gap 1", marks.turn(1, 29), 1016);
    }

    private static void turnDoesNotLetABoxBeSeenAgain() {
        BeltMarks marks = new BeltMarks();
        marks.arrive(30);
        marks.pass(7);
        Due.is("seen", marks.box(0, 2), 1);
        Due.is("turned back", marks.turn(0, 4), 1008);
        Due.is("seen yet", marks.box(0, 2), 1);
        marks.pass(5);
        Due.is("beyond the sensor again", marks.box(0, 0), 1023);
        Due.is("one plan", marks.count(12), 1);
        Due.is("no report", marks.count(11), 0);
        BeltMarks still = new BeltMarks();
        still.arrive(4);
        still.pass(6);
        Due.is("turned beyond the sensor", still.turn(0, 30), 1031);
        Due.is("not seen in the turn", still.box(0, 2), 0);
        still.set(BeltMarks.SPEED, 0);
        still.pass(1);
        Due.is("seen in the tick behind it", still.box(0, 2), 1);
        Due.is("its excess", still.report(0, 1), 11);
    }

    private static void passKeepsToItsBounds() {
        BeltMarks marks = new BeltMarks();
        int[] wrong = {0, -1, 100, Integer.MIN_VALUE, Integer.MAX_VALUE};
        for (int ticks : wrong) {
            Due.is("pass(" + ticks + ")", marks.pass(ticks), BeltMarks.BAD_VALUE);
        }
        Due.is("no tick", marks.count(0), 0);
        Due.is("nothing recorded", marks.count(23), 0);
        for (int i = 0; i < 202; i++) {
            Due.is("pass(99)", marks.pass(99), 0);
        }
        Due.is("ticks", marks.count(0), 19998);
        Due.is("pass(3)", marks.pass(3), BeltMarks.TOO_MANY);
        Due.is("pass(100)", marks.pass(100), BeltMarks.BAD_VALUE);
        Due.is("pass(2)", marks.pass(2), 0);
        Due.is("pass(1)", marks.pass(1), BeltMarks.TOO_MANY);
        Due.is("ticks at the end", marks.count(0), 20000);
        Due.is("way at the end", marks.count(13), 60000);
        Due.type(marks, "w1");
        Due.is("an order to pass", marks.carryOut(), 0);
        marks.arrive(4);
        Due.is("what if goes on", marks.ifPass(99, 2), 1);
        Due.is("best guess goes on", marks.bestGuess(99, 1), 1);
        Due.is("needed slack goes on", marks.neededSlack(99), 0);
    }

    private static void passTellsHowManyLeave() {
        BeltMarks marks = new BeltMarks();
        marks.set(BeltMarks.SPEED, 5);
        for (int i = 0; i < 3; i++) {
            marks.arrive(4);
            marks.pass(1);
        }
        Due.is("first at 105", marks.pass(18), 1);
        Due.is("two more", marks.pass(2), 2);
        Due.is("none more", marks.pass(99), 0);
        Due.is("all left", marks.count(3) + marks.count(4) + marks.count(5), 3);
    }
}
