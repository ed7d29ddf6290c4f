/** Edges that "A tick" names, step by step. */
public final class EdgeTickTest {
    public static void main(String[] args) {
        ticksAreNumberedFrom0();
        frontsAndTheWayBecomeGreater();
        aBoxIsSeenAtOrBeyondTheSensor();
        aBoxIsSeenOnce();
        boxesAreSeenInTheirOrder();
        theExcessIsTheFrontLess20();
        aReportComesLateTicksLater();
        plansBecomeLessBySpeed();
        anOldPlanIsCountedDownANewOneIsNot();
        reportsThatWereMadeFirstComeFirst();
        aPlanIsMadeWithTheSettingsOfItsTick();
        thePlaceIsAddedTo40();
        theExcessIsTaken();
        theWaysOfTheLatestTicksAreTaken();
        ofTicksThatThereWereNot0IsTaken();
        aPlanOf0OrLessIsDone();
        aPlanThatIsMadeAt0OrLessIsDone();
        plansAreDoneInTheirOrder();
        aDonePlanIsNoPlanAnyMore();
        lessSlackThanLabelStarves();
        theSlackBecomesLessByLabel();
        theFrontIsAtOrBeyond60();
        theBackIsBelow60();
        theMarkIsPutOnTheBeltIfThereIsNoBox();
        theBoxUnderTheMarkerIsNotAlwaysThePlans();
        aSecondMarkTakesThePlaceOfTheFirst();
        everyFurtherMarkCounts();
        theSlackIsFedUpToSlack();
        theSlackIsFedBehindTheMarks();
        aGreaterSlackBecomesSlack();
        aBoxLeavesAt100();
        twoBoxesLeaveInATick();
        aGoodMarkIsNear();
        aBoxMarkedTwiceIsNotGood();
        aBoxWithoutAMarkIsMissed();
        Due.end();
    }

    private static void ticksAreNumberedFrom0() {
        Due.says("Ticks are numbered from 0.");
        BeltMarks marks = new BeltMarks();
        Due.is("ticks", marks.count(0), 0);
        marks.pass(1);
        Due.is("ticks", marks.count(0), 1);
        marks.pass(99);
        Due.is("ticks", marks.count(0), 100);
    }

    private static void frontsAndTheWayBecomeGreater() {
        Due.says("The front of each box becomes greater by SPEED; so does the way of the belt (0 at first).");
        Due.is("way at first", new BeltMarks().count(13), 0);
        for (int speed = 0; speed <= 9; speed++) {
            BeltMarks marks = Belts.row(8);
            int way = marks.count(13);
            marks.set(BeltMarks.SPEED, speed);
            marks.pass(1);
            Due.is("way with speed " + speed, marks.count(13), way + speed);
            for (int box = 0; box < 8; box++) {
                Due.is("front " + box + " with speed " + speed, marks.box(box, 0), 1000 + 42 - 6 * box + speed);
            }
        }
        BeltMarks empty = new BeltMarks();
        empty.pass(2);
        Due.is("way without a box", empty.count(13), 6);
    }

    /** A box of 4 with its front at 14 to 21, that was not seen so far, on a belt that stands. */
    private static BeltMarks standingAt(int front) {
        BeltMarks marks = Belts.slow(0);
        marks.set(BeltMarks.LATE, 5);
        marks.arrive(4);
        marks.pass(front - 5);
        marks.turn(0, 14);
        marks.set(BeltMarks.SPEED, 0);
        return marks;
    }

    private static void aBoxIsSeenAtOrBeyondTheSensor() {
        Due.says("Each box that was not seen so far, and whose front is at or beyond the sensor now, is seen");
        for (int front = 18; front <= 22; front++) {
            BeltMarks marks = standingAt(front);
            Due.is("front", marks.box(0, 0), 1000 + front);
            Due.is("front " + front + ": seen ahead of the tick", marks.box(0, 2), 0);
            marks.pass(1);
            Due.is("front " + front + ": seen", marks.box(0, 2), front >= 20 ? 1 : 0);
            Due.is("front " + front + ": reports", marks.count(11), front >= 20 ? 1 : 0);
        }
    }

    private static void aBoxIsSeenOnce() {
        Due.says("Each box that was not seen so far, and whose front is at or beyond the sensor now, is seen");
        BeltMarks marks = standingAt(20);
        marks.pass(1);
        Due.is("reports", marks.count(11), 1);
        marks.pass(1);
        Due.is("reports a tick later", marks.count(11), 1);
        Due.is("seen yet", marks.box(0, 2), 1);
        Due.is("when it comes", marks.report(0, 0), 4);
    }

    private static void boxesAreSeenInTheirOrder() {
        Due.says("is seen, in their order: a report is made");
        BeltMarks marks = Belts.slow(0);
        marks.set(BeltMarks.LATE, 1);
        marks.arrive(4);
        marks.pass(5);
        marks.arrive(4);
        marks.pass(14);
        marks.set(BeltMarks.SPEED, 9);
        marks.pass(1);
        Due.is("reports of 19 and 14", marks.count(11), 2);
        Due.is("the first one's excess", marks.report(0, 1), 8);
        Due.is("the second one's excess", marks.report(1, 1), 3);
        Due.is("no third one", marks.report(2, 1), BeltMarks.NO_SUCH);
    }

    private static void theExcessIsTheFrontLess20() {
        Due.says("with its excess: the front less 20");
        for (int speed = 1; speed <= 9; speed++) {
            BeltMarks marks = Belts.slow(0);
            marks.set(BeltMarks.LATE, 1);
            marks.arrive(4);
            marks.pass(19);
            marks.set(BeltMarks.SPEED, speed);
            marks.pass(1);
            Due.is("excess with speed " + speed, marks.report(0, 1), speed - 1);
        }
        BeltMarks turned = Belts.slow(0);
        turned.set(BeltMarks.LATE, 1);
        turned.arrive(4);
        turned.pass(19);
        turned.turn(0, 30);
        turned.set(BeltMarks.SPEED, 9);
        turned.pass(1);
        Due.is("excess of a box that was turned", turned.report(0, 1), 19 + 13 + 9 - 20);
    }

    private static void aReportComesLateTicksLater() {
        Due.says("It comes LATE ticks later (0: in this tick).");
        for (int late = 0; late <= 5; late++) {
            BeltMarks marks = Belts.slow(0);
            marks.set(BeltMarks.LATE, late);
            marks.arrive(4);
            marks.pass(20);
            Due.is("late " + late + ": reports", marks.count(11), late == 0 ? 0 : 1);
            Due.is("late " + late + ": plans", marks.count(12), late == 0 ? 1 : 0);
            Due.is("late " + late + ": when", marks.report(0, 0), late == 0 ? BeltMarks.NO_SUCH : late);
            if (late > 0) {
                Belts.pass(marks, late - 1);
                Due.is("late " + late + ": plans ahead of it", marks.count(12), 0);
                marks.pass(1);
            }
            Due.is("late " + late + ": it came", marks.count(11), 0);
            Due.is("late " + late + ": its plan", marks.plan(0), 1040);
        }
    }

    private static void plansBecomeLessBySpeed() {
        Due.says("Each plan becomes less by SPEED.");
        for (int speed = 0; speed <= 9; speed++) {
            BeltMarks marks = Belts.slow(0);
            marks.arrive(4);
            marks.pass(5);
            marks.arrive(4);
            marks.pass(20);
            Due.is("the first plan", marks.plan(0), 1035);
            Due.is("the second plan", marks.plan(1), 1040);
            marks.set(BeltMarks.SPEED, speed);
            marks.pass(1);
            Due.is("the first plan with speed " + speed, marks.plan(0), 1035 - speed);
            Due.is("the second plan with speed " + speed, marks.plan(1), 1040 - speed);
        }
    }

    private static void anOldPlanIsCountedDownANewOneIsNot() {
        Due.says("Each report that comes in this tick (those that were made first, first) becomes a plan");
        BeltMarks marks = Belts.slow(0);
        marks.arrive(4);
        marks.pass(5);
        marks.arrive(4);
        marks.pass(14);
        marks.set(BeltMarks.LATE, 1);
        marks.pass(1);
        Due.is("made in the tick ahead: a report", marks.report(0, 0), 1);
        marks.set(BeltMarks.LATE, 0);
        marks.pass(4);
        Due.is("the first plan, counted down", marks.plan(0), 1037);
        marks.pass(1);
        Due.is("the first plan, counted down again", marks.plan(0), 1036);
        Due.is("the second plan, as it was made", marks.plan(1), 1040);
    }

    /**
     * Two boxes at 21 and 16, the first one seen, with a speed of 2, behind the tick in which its
     * report was made; the second one is seen at 20 in the second tick from now.
     */
    private static BeltMarks aReportAhead(int late) {
        BeltMarks marks = Belts.slow(0);
        marks.arrive(4);
        marks.pass(5);
        marks.arrive(4);
        marks.pass(14);
        marks.set(BeltMarks.SPEED, 2);
        marks.set(BeltMarks.LATE, late);
        marks.pass(1);
        return marks;
    }

    private static void reportsThatWereMadeFirstComeFirst() {
        Due.says("Each report that comes in this tick (those that were made first, first) becomes a plan");
        BeltMarks ahead = aReportAhead(1);
        ahead.set(BeltMarks.LATE, 0);
        ahead.pass(2);
        Due.is("a tick ahead of the second: the first plan", ahead.plan(0), 1039 - 2);
        Due.is("a tick ahead of the second: the second plan", ahead.plan(1), 1040);
        for (int late = 0; late <= 2; late++) {
            BeltMarks together = aReportAhead(2 + late);
            together.set(BeltMarks.LATE, late);
            together.pass(1);
            Due.is("together: when the first one comes", together.report(0, 0), 1 + late);
            Due.is("together: no plan", together.count(12), 0);
            together.pass(1 + late);
            Due.is("together: the first plan", together.plan(0), 1039);
            Due.is("together: the second plan", together.plan(1), 1040);
            Due.is("together: no report", together.count(11), 0);
        }
        BeltMarks behind = aReportAhead(3);
        behind.set(BeltMarks.LATE, 0);
        behind.pass(2);
        Due.is("a tick behind the second: a plan", behind.plan(0), 1040);
        Due.is("a tick behind the second: no other plan", behind.count(12), 1);
        Due.is("a tick behind the second: the report", behind.report(0, 0), 1);
        Due.is("a tick behind the second: its excess", behind.report(0, 1), 1);
        behind.pass(1);
        Due.is("a tick behind the second: the second one's plan", behind.plan(0), 1040 - 2);
        Due.is("a tick behind the second: the first one's plan", behind.plan(1), 1039);
    }

    private static void aPlanIsMadeWithTheSettingsOfItsTick() {
        Due.says("becomes a plan: 40 + PLACE, less the excess, less the ways of the latest GUESS ticks together");
        BeltMarks marks = Belts.slow(20);
        marks.set(BeltMarks.GUESS, 5);
        marks.set(BeltMarks.LATE, 2);
        marks.arrive(4);
        marks.pass(20);
        marks.set(BeltMarks.PLACE, 3);
        marks.set(BeltMarks.GUESS, 1);
        marks.set(BeltMarks.SPEED, 4);
        marks.pass(2);
        Due.is("the plan", marks.plan(0), 1000 + 43 - 4);
        marks.set(BeltMarks.PLACE, 0);
        marks.set(BeltMarks.GUESS, 0);
        Due.is("set behind it", marks.plan(0), 1000 + 43 - 4);
        marks.set(BeltMarks.SPEED, 0);
        marks.pass(1);
        Due.is("a tick behind it", marks.plan(0), 1000 + 43 - 4);
    }

    private static void thePlaceIsAddedTo40() {
        Due.says("becomes a plan: 40 + PLACE");
        for (int place = 0; place <= 20; place++) {
            BeltMarks marks = Belts.slow(place);
            marks.arrive(4);
            marks.pass(20);
            Due.is("plan for place " + place, marks.plan(0), 1040 + place);
        }
    }

    private static void theExcessIsTaken() {
        Due.says("less the excess, less the ways of the latest GUESS ticks together");
        for (int speed = 1; speed <= 9; speed++) {
            BeltMarks marks = Belts.slow(0);
            marks.arrive(4);
            marks.pass(19);
            marks.set(BeltMarks.SPEED, speed);
            marks.pass(1);
            Due.is("plan with an excess of " + (speed - 1), marks.plan(0), 1040 - (speed - 1));
        }
    }

    /** Ticks with speeds 1 to many, then one with 9 in which a box comes to 22, without lateness. */
    private static BeltMarks seenBehind(int many, int guess) {
        BeltMarks marks = Belts.slow(0);
        marks.set(BeltMarks.GUESS, guess);
        for (int speed = 1; speed <= many; speed++) {
            marks.set(BeltMarks.SPEED, speed);
            marks.pass(1);
        }
        marks.arrive(4);
        marks.turn(0, 30);
        marks.set(BeltMarks.SPEED, 9);
        marks.pass(1);
        return marks;
    }

    private static void theWaysOfTheLatestTicksAreTaken() {
        Due.says("less the ways of the latest GUESS ticks together (this one with them");
        int[] ways = {0, 9, 9 + 6, 9 + 6 + 5, 9 + 6 + 5 + 4, 9 + 6 + 5 + 4 + 3};
        for (int guess = 0; guess <= 5; guess++) {
            BeltMarks marks = seenBehind(6, guess);
            Due.is("plan with guess " + guess, marks.plan(0), 1000 + 40 - 2 - ways[guess]);
        }
    }

    private static void ofTicksThatThereWereNot0IsTaken() {
        Due.says("of ticks that there were not, 0");
        int[] ways = {9, 9 + 1, 9 + 2 + 1, 9 + 3 + 2 + 1, 9 + 4 + 3 + 2 + 1, 9 + 5 + 4 + 3 + 2, 9 + 6 + 5 + 4 + 3};
        for (int before = 0; before <= 6; before++) {
            BeltMarks marks = seenBehind(before, 5);
            Due.is("plan behind " + before + " ticks", marks.plan(0), 1000 + 40 - 2 - ways[before]);
        }
        for (int guess = 0; guess <= 5; guess++) {
            BeltMarks marks = seenBehind(0, guess);
            Due.is("plan of the first tick, guess " + guess, marks.plan(0), 1000 + 40 - 2 - (guess > 0 ? 9 : 0));
        }
    }

    private static void aPlanOf0OrLessIsDone() {
        Due.says("Each plan that is 0 or less now");
        for (int left = -1; left <= 2; left++) {
            BeltMarks marks = Belts.slow(0);
            marks.arrive(30);
            marks.pass(52);
            Due.is("plan ahead of the tick", marks.plan(0), 1008);
            marks.set(BeltMarks.SPEED, 8 - left);
            marks.pass(1);
            Due.is("a plan of " + left + " stays", marks.count(12), left > 0 ? 1 : 0);
            Due.is("a plan of " + left + " is done", marks.count(6), left > 0 ? 0 : 1);
            Due.is("a plan of " + left, marks.plan(0), left > 0 ? 1000 + left : BeltMarks.NO_SUCH);
        }
    }

    private static void aPlanThatIsMadeAt0OrLessIsDone() {
        Due.says("Each plan that is 0 or less now");
        for (int place = 5; place <= 9; place++) {
            BeltMarks marks = Belts.slow(place);
            marks.set(BeltMarks.SPEED, 9);
            marks.set(BeltMarks.GUESS, 5);
            marks.pass(5);
            marks.arrive(4);
            marks.turn(0, 30);
            marks.pass(1);
            // 40 + place, less an excess of 2, less five ways of 9.
            int plan = place - 7;
            Due.is("a new plan of " + plan + " stays", marks.count(12), plan > 0 ? 1 : 0);
            Due.is("a new plan of " + plan + " is done", marks.count(7), plan > 0 ? 0 : 1);
        }
    }

    /** A box of 30 at 54 with a plan of 9, ahead of a tick in which the one behind it is seen. */
    private static BeltMarks twoPlansInATick(int label) {
        BeltMarks marks = new BeltMarks();
        int[] settings = {9, 0, 0, 3, label, 20, 9, 9};
        for (int setting = 0; setting < 8; setting++) {
            marks.set(setting, settings[setting]);
        }
        marks.arrive(30);
        marks.pass(4);
        marks.arrive(4);
        marks.set(BeltMarks.GUESS, 5);
        marks.pass(2);
        return marks;
    }

    private static void plansAreDoneInTheirOrder() {
        Due.says("Each plan that is 0 or less now, in the order in which they were made, is done");
        for (int label = 9; label <= 12; label++) {
            BeltMarks marks = twoPlansInATick(label);
            Due.is("the first plan", marks.plan(0), 1009);
            Due.is("one plan", marks.count(12), 1);
            // The first one is done at 63; the second one is made at 40 + 3 - 7 - 45 and done, too.
            marks.pass(1);
            boolean both = 2 * label <= 20;
            Due.is("label " + label + ": marks", marks.count(6), both ? 2 : 1);
            Due.is("label " + label + ": starved", marks.count(9), both ? 0 : 1);
            Due.is("label " + label + ": slack", marks.count(10), both ? Math.min(20 - 2 * label + 9, 20) : 20 - label + 9);
            Due.is("label " + label + ": plans", marks.count(12), 0);
        }
        // The plan that was made last is the first that comes to 0: the others keep their order.
        BeltMarks later = Belts.slow(20);
        later.arrive(4);
        later.pass(5);
        later.arrive(4);
        later.pass(15);
        later.set(BeltMarks.PLACE, 0);
        later.pass(5);
        Due.is("made first", later.plan(0), 1055);
        Due.is("made last", later.plan(1), 1040);
        later.pass(39);
        Due.is("made last, ahead of its end", later.plan(1), 1001);
        later.pass(1);
        Due.is("made first, yet a plan", later.plan(0), 1015);
        Due.is("one plan", later.count(12), 1);
    }

    private static void aDonePlanIsNoPlanAnyMore() {
        Due.says("is done, and there is no such plan any more: if the slack is less than LABEL, it starves");
        for (int label = 19; label <= 20; label++) {
            BeltMarks marks = Belts.slow(0);
            marks.set(BeltMarks.SLACK, 19);
            marks.set(BeltMarks.LABEL, label);
            marks.arrive(4);
            marks.pass(59);
            Due.is("label " + label + ": the plan", marks.plan(0), 1001);
            marks.pass(1);
            Due.is("label " + label + ": no plan", marks.plan(0), BeltMarks.NO_SUCH);
            Due.is("label " + label + ": no plans", marks.count(12), 0);
            marks.pass(20);
            Due.is("label " + label + ": marks later", marks.count(6) + marks.count(7), label == 19 ? 1 : 0);
            Due.is("label " + label + ": starved later", marks.count(9), label == 19 ? 0 : 1);
        }
    }

    /** Its slack is what is told, and isn't fed; a plan is done in tick 60. */
    private static BeltMarks withSlack(int slack, int label) {
        BeltMarks marks = Belts.slow(0);
        marks.set(BeltMarks.FEED, 0);
        marks.set(BeltMarks.SLACK, slack);
        marks.set(BeltMarks.LABEL, label);
        marks.arrive(4);
        marks.pass(60);
        return marks;
    }

    private static void lessSlackThanLabelStarves() {
        Due.says("if the slack is less than LABEL, it starves");
        int[] labels = {2, 6, 19};
        for (int label : labels) {
            for (int slack = label - 1; slack <= label + 1; slack++) {
                BeltMarks marks = withSlack(slack, label);
                String when = "slack " + slack + ", label " + label;
                Due.is(when + ": starved", marks.count(9), slack < label ? 1 : 0);
                Due.is(when + ": marks", marks.count(6), slack < label ? 0 : 1);
                Due.is(when + ": marks on the belt", marks.count(7), 0);
                Due.is(when + ": its mark", marks.box(0, 3), slack < label ? BeltMarks.NONE : 1000);
            }
        }
    }

    private static void theSlackBecomesLessByLabel() {
        Due.says("Otherwise the slack becomes less by LABEL");
        Due.is("slack 5, label 6", withSlack(5, 6).count(10), 5);
        Due.is("slack 6, label 6", withSlack(6, 6).count(10), 0);
        Due.is("slack 7, label 6", withSlack(7, 6).count(10), 1);
        Due.is("slack 20, label 20", withSlack(20, 20).count(10), 0);
        Due.is("slack 20, label 1", withSlack(20, 1).count(10), 19);
    }

    private static void theFrontIsAtOrBeyond60() {
        Due.says("its front is at or beyond 60, its back below 60");
        for (int back = 0; back <= 2; back++) {
            // Turned to 5 and to 4 again, a box lies a place further back.
            BeltMarks marks = Belts.slow(1);
            marks.arrive(4);
            marks.pass(20);
            for (int i = 0; i < back; i++) {
                marks.turn(0, 5);
                marks.turn(0, 4);
            }
            marks.pass(41);
            int front = 61 - back;
            Due.is("front", marks.box(0, 0), 1000 + front);
            Due.is("front " + front + ": marks on boxes", marks.count(6), front >= 60 ? 1 : 0);
            Due.is("front " + front + ": marks on the belt", marks.count(7), front >= 60 ? 0 : 1);
            Due.is("front " + front + ": its mark", marks.box(0, 3), front >= 60 ? 1000 + front - 60 : BeltMarks.NONE);
        }
    }

    private static void theBackIsBelow60() {
        Due.says("its front is at or beyond 60, its back below 60");
        int[] lengths = {4, 5, 19, 20, 21, 30};
        for (int length : lengths) {
            for (int place = length - 2; place <= length + 1 && place <= 20; place++) {
                BeltMarks marks = Belts.slow(place);
                marks.arrive(length);
                marks.pass(60 + place);
                boolean under = place - length < 0;
                String when = "length " + length + ", back " + (60 + place - length);
                Due.is(when + ": marks on boxes", marks.count(6), under ? 1 : 0);
                Due.is(when + ": marks on the belt", marks.count(7), under ? 0 : 1);
                Due.is(when + ": its mark", marks.box(0, 3), under ? 1000 + place : BeltMarks.NONE);
            }
        }
        BeltMarks longest = Belts.slow(20);
        longest.arrive(30);
        longest.pass(80);
        Due.is("length 30: its mark", longest.box(0, 3), 1020);
    }

    private static void theMarkIsPutOnTheBeltIfThereIsNoBox() {
        Due.says("at the place front less 60; or on the belt, if there is none");
        BeltMarks empty = Belts.slow(20);
        empty.set(BeltMarks.FEED, 0);
        empty.arrive(4);
        empty.pass(20);
        empty.set(BeltMarks.SPEED, 9);
        empty.set(BeltMarks.LATE, 5);
        empty.pass(6);
        Due.is("plan", empty.plan(0), 1006);
        empty.pass(1);
        Due.is("behind the marker: on the belt", empty.count(7), 1);
        Due.is("behind the marker: on boxes", empty.count(6), 0);
        Due.is("behind the marker: the slack", empty.count(10), 14);
        Due.is("behind the marker: starved", empty.count(9), 0);
        // Two boxes with one place between them: at it, the one with its back below, the next one.
        int[] place = {3, 4, 5};
        for (int at : place) {
            BeltMarks marks = Belts.slow(at);
            marks.arrive(4);
            marks.pass(5);
            marks.arrive(4);
            marks.pass(55 + at);
            Due.is("place " + at + ": the first one's mark", marks.box(0, 3), at == 3 ? 1003 : BeltMarks.NONE);
            Due.is("place " + at + ": the second one's mark", marks.box(1, 3), at == 5 ? 1000 : BeltMarks.NONE);
            Due.is("place " + at + ": on the belt", marks.count(7), at == 4 ? 1 : 0);
        }
    }

    private static void theBoxUnderTheMarkerIsNotAlwaysThePlans() {
        Due.says("a mark is put on the box that lies under the marker");
        BeltMarks marks = Belts.slow(10);
        marks.arrive(4);
        marks.pass(5);
        marks.arrive(4);
        marks.pass(5);
        marks.arrive(4);
        marks.pass(60);
        Due.is("the plan of the first one is done", marks.count(12), 2);
        Due.is("the first one", marks.box(0, 3), BeltMarks.NONE);
        Due.is("the second one", marks.box(1, 3), BeltMarks.NONE);
        Due.is("the third one lies under the marker", marks.box(2, 3), 1000);
    }

    private static void aSecondMarkTakesThePlaceOfTheFirst() {
        Due.says("A box that has a mark already gets it in the place of that, and counts as marked twice.");
        BeltMarks marks = Belts.twice();
        Due.is("the second place", marks.box(0, 3), 1026);
        Due.is("marked twice", marks.box(0, 4), 1);
        Due.is("counted", marks.count(8), 1);
        Due.is("marks on boxes", marks.count(6), 2);
        marks.undo();
        marks.pass(54);
        Due.is("ahead of it: the first place", marks.box(0, 3), 1000);
        Due.is("ahead of it: marked twice", marks.box(0, 4), 0);
        Due.is("ahead of it: counted", marks.count(8), 0);
        Due.is("ahead of it: marks on boxes", marks.count(6), 1);
        marks.pass(1);
        Due.is("the other box", marks.box(1, 4), 0);
        Due.is("the other box's mark", marks.box(1, 3), BeltMarks.NONE);
    }

    private static void everyFurtherMarkCounts() {
        Due.says("8 boxes that were marked twice (each time)");
        BeltMarks marks = new BeltMarks();
        int[] settings = {9, 0, 0, 0, 1, 20, 0, 9};
        for (int setting = 0; setting < 8; setting++) {
            marks.set(setting, settings[setting]);
        }
        marks.arrive(30);
        marks.pass(4);
        marks.set(BeltMarks.GUESS, 5);
        for (int i = 0; i < 3; i++) {
            marks.arrive(4);
            if (i < 2) {
                marks.pass(1);
            }
        }
        // Each of the three is seen at 27; its plan is below 0, and done while the first one
        // lies under the marker, at 63, 72 and 81. Its own plan is done at 63, too.
        int[] times = {1, 2, 3};
        for (int time : times) {
            marks.pass(1);
            Due.is("marked twice, time " + time, marks.count(8), time);
            Due.is("marks on boxes, time " + time, marks.count(6), time + 1);
            Due.is("its mark, time " + time, marks.box(0, 3), 1000 + 3 + 9 * (time - 1));
            Due.is("whether it was, time " + time, marks.box(0, 4), 1);
            Due.is("slack, time " + time, marks.count(10), 20 - (time + 1));
        }
    }

    private static void theSlackIsFedUpToSlack() {
        Due.says("The slack becomes greater by FEED, but not above SLACK.");
        for (int feed = 0; feed <= 9; feed++) {
            for (int most = 25; most <= 27; most++) {
                BeltMarks marks = new BeltMarks();
                marks.set(BeltMarks.FEED, feed);
                marks.set(BeltMarks.SLACK, most);
                marks.pass(1);
                Due.is("fed " + feed + " up to " + most, marks.count(10), Math.min(20 + feed, most));
            }
        }
        BeltMarks marks = new BeltMarks();
        marks.pass(1);
        Due.is("full at first", marks.count(10), 20);
        marks.set(BeltMarks.SLACK, 60);
        marks.pass(39);
        Due.is("fed 39 times", marks.count(10), 59);
        marks.pass(1);
        Due.is("full", marks.count(10), 60);
        marks.pass(1);
        Due.is("not above it", marks.count(10), 60);
    }

    private static void theSlackIsFedBehindTheMarks() {
        Due.says("The slack becomes greater by FEED, but not above SLACK.");
        for (int feed = 0; feed <= 9; feed++) {
            BeltMarks marks = Belts.slow(0);
            marks.set(BeltMarks.FEED, feed);
            marks.set(BeltMarks.LABEL, 5);
            marks.arrive(4);
            marks.pass(60);
            Due.is("fed " + feed + " behind a label of 5", marks.count(10), Math.min(15 + feed, 20));
        }
        BeltMarks starved = Belts.slow(0);
        starved.set(BeltMarks.SLACK, 5);
        starved.set(BeltMarks.FEED, 0);
        starved.arrive(4);
        starved.pass(59);
        starved.set(BeltMarks.SLACK, 60);
        starved.set(BeltMarks.FEED, 1);
        starved.pass(1);
        Due.is("the feed of this tick comes too late", starved.count(9), 1);
        Due.is("it is fed all the same", starved.count(10), 6);
    }

    private static void aGreaterSlackBecomesSlack() {
        Due.says("(A greater slack than SLACK, behind a change of it, becomes SLACK.)");
        for (int most = 18; most <= 22; most++) {
            for (int feed = 0; feed <= 1; feed++) {
                BeltMarks marks = new BeltMarks();
                marks.set(BeltMarks.FEED, feed);
                marks.set(BeltMarks.SLACK, most);
                Due.is("ahead of the tick", marks.count(10), 20);
                marks.pass(1);
                Due.is("SLACK " + most + ", fed " + feed, marks.count(10), Math.min(20 + feed, most));
            }
        }
        BeltMarks marks = Belts.slow(0);
        marks.set(BeltMarks.LABEL, 20);
        marks.arrive(4);
        marks.pass(59);
        marks.set(BeltMarks.SLACK, 1);
        marks.pass(1);
        Due.is("it is used ahead of that", marks.count(6), 1);
        Due.is("and fed up to SLACK", marks.count(10), 1);
    }

    private static void aBoxLeavesAt100() {
        Due.says("Each box whose back is at or beyond 100 leaves");
        for (int speed = 1; speed <= 3; speed++) {
            BeltMarks marks = Belts.slow(0);
            marks.arrive(10);
            marks.pass(99);
            marks.pass(9);
            Due.is("back 98", marks.box(0, 0) - marks.box(0, 1), 1098);
            marks.set(BeltMarks.SPEED, speed);
            Due.is("back " + (98 + speed), marks.pass(1), speed >= 2 ? 1 : 0);
            Due.is("boxes", marks.count(1), speed >= 2 ? 0 : 1);
            Due.is("left", marks.count(3) + marks.count(4) + marks.count(5), speed >= 2 ? 1 : 0);
            Due.is("its front", marks.box(0, 0), speed >= 2 ? BeltMarks.NO_SUCH : 1109);
        }
        // Only a tick lets it leave: turned to 4, its back goes from 99 to 112.
        BeltMarks turned = Belts.slow(0);
        turned.arrive(30);
        Belts.pass(turned, 129);
        Due.is("turned at 129", turned.turn(0, 4), 1116);
        Due.is("on the belt yet", turned.count(1), 1);
        turned.set(BeltMarks.SPEED, 0);
        Due.is("gone in the next tick", turned.pass(1), 1);
    }

    private static void twoBoxesLeaveInATick() {
        Due.says("Each box whose back is at or beyond 100 leaves");
        for (int first = 98; first <= 99; first++) {
            BeltMarks marks = Belts.slow(0);
            marks.arrive(4);
            marks.pass(5);
            marks.arrive(4);
            marks.pass(6);
            marks.arrive(4);
            Belts.pass(marks, first - 7);
            Due.is("first back", marks.box(0, 0), 1004 + first);
            marks.set(BeltMarks.SPEED, 6);
            Due.is("backs " + (first + 6) + " and " + (first + 1), marks.pass(1), first == 99 ? 2 : 1);
            Due.is("boxes", marks.count(1), first == 99 ? 1 : 2);
            Due.is("the next one", marks.box(0, 5), first == 99 ? 2 : 1);
            Due.is("the last one", marks.box(marks.count(1) - 1, 0), 1000 + first - 7 + 6);
        }
    }

    private static void aGoodMarkIsNear() {
        Due.says("and the place of its mark differs from PLACE by at most NEAR");
        int[] marksPlaces = {0, 6, 20};
        for (int mark : marksPlaces) {
            for (int place = 0; place <= 20; place++) {
                for (int near = 0; near <= 9; near++) {
                    BeltMarks marks = Belts.slow(mark);
                    marks.arrive(30);
                    marks.pass(99);
                    marks.set(BeltMarks.PLACE, place);
                    marks.set(BeltMarks.NEAR, near);
                    marks.pass(30);
                    Due.is("ahead: left", marks.count(1), 1);
                    marks.pass(1);
                    boolean good = place - mark <= near && mark - place <= near;
                    String when = "mark " + mark + ", place " + place + ", near " + near;
                    Due.is(when + ": good", marks.count(3), good ? 1 : 0);
                    Due.is(when + ": bad", marks.count(4), good ? 0 : 1);
                    Due.is(when + ": missed", marks.count(5), 0);
                }
            }
        }
    }

    private static void aBoxMarkedTwiceIsNotGood() {
        Due.says("it is good if it has a mark, was not marked twice");
        for (int second = 0; second <= 1; second++) {
            BeltMarks marks = Belts.slow(20);
            marks.set(BeltMarks.NEAR, 9);
            marks.arrive(30);
            marks.pass(31);
            marks.arrive(4);
            marks.set(BeltMarks.PLACE, 0);
            marks.set(BeltMarks.GUESS, second == 1 ? 5 : 0);
            marks.pass(55);
            marks.set(BeltMarks.PLACE, 20);
            Due.is("marks", marks.count(6), 1 + second);
            Due.is("a place that is near", marks.box(0, 3), second == 1 ? 1026 : 1020);
            marks.pass(44);
            Due.is("good", marks.count(3), 1 - second);
            Due.is("bad", marks.count(4), second);
            Due.is("missed", marks.count(5), 0);
        }
    }

    private static void aBoxWithoutAMarkIsMissed() {
        Due.says("it is missed if it has no mark; otherwise bad");
        for (int place = 3; place <= 4; place++) {
            // Marked at 3, or on the belt behind it; then a PLACE that is not near, or is 0.
            for (int then = 0; then <= 20; then += 20) {
                BeltMarks marks = Belts.slow(place);
                marks.arrive(4);
                marks.pass(70);
                marks.set(BeltMarks.PLACE, then);
                marks.pass(34);
                Due.is("place " + place + ", then " + then + ": good", marks.count(3), 0);
                Due.is("place " + place + ", then " + then + ": bad", marks.count(4), place == 3 ? 1 : 0);
                Due.is("place " + place + ", then " + then + ": missed", marks.count(5), place == 4 ? 1 : 0);
            }
        }
    }
}
