/** Edges that promises 6 to 9 name: box, plan, report, count. */
public final class EdgeLookTest {
    public static void main(String[] args) {
        aBoxHasSixNumbers();
        aFrontIsToldWith1000();
        aBoxWasSeenOrNot();
        aMarkIsToldAsItWasPut();
        thereIsNoneWithoutAMark();
        aBoxWasMarkedTwiceOrNot();
        numbersAmongAllAreFrom0();
        boxWantsABox();
        boxWantsANumber();
        aPlanIsToldWith1000();
        planWantsAPlan();
        plansAreMoreThanBoxes();
        aReportComesInTheNextTick();
        reportWantsAReport();
        reportsMoveUp();
        reportWants0Or1();
        ofThoseThatLeft();
        countTellsWhatThereIs();
        countTellsSettingsAndThePad();
        countTellsHowManyCanBeUndone();
        countWantsANumber();
        Due.end();
    }

    private static void aBoxHasSixNumbers() {
        Due.says("0 its front, and 1000, 1 its length, 2 whether it was seen (1 or 0), 3 the place of its mark");
        BeltMarks marks = new BeltMarks();
        marks.arrive(10);
        marks.pass(18);
        marks.arrive(7);
        marks.pass(4);
        int[] first = {1066, 10, 1, 1006, 0, 0};
        int[] second = {1012, 7, 0, BeltMarks.NONE, 0, 1};
        for (int what = 0; what < 6; what++) {
            Due.is("box(0, " + what + ")", marks.box(0, what), first[what]);
            Due.is("box(1, " + what + ")", marks.box(1, what), second[what]);
        }
    }

    private static void aFrontIsToldWith1000() {
        Due.says("0 its front, and 1000");
        BeltMarks marks = Belts.slow(0);
        marks.arrive(6);
        Due.is("front 0", marks.box(0, 0), 1000);
        marks.turn(0, 4);
        Due.is("front -1", marks.box(0, 0), 999);
        marks.pass(2);
        Due.is("front 1", marks.box(0, 0), 1001);
        marks.pass(99);
        Due.is("front 100", marks.box(0, 0), 1100);
    }

    private static void aBoxWasSeenOrNot() {
        Due.says("2 whether it was seen (1 or 0)");
        BeltMarks marks = Belts.slow(0);
        marks.set(BeltMarks.LATE, 5);
        marks.arrive(4);
        marks.pass(19);
        Due.is("at 19", marks.box(0, 2), 0);
        marks.pass(1);
        Due.is("at 20", marks.box(0, 2), 1);
        marks.pass(83);
        Due.is("at 103", marks.box(0, 2), 1);
    }

    private static void aMarkIsToldAsItWasPut() {
        Due.says("3 the place of its mark, as it was put there, and 1000 (NONE without one)");
        BeltMarks marks = Belts.slow(3);
        marks.arrive(10);
        marks.pass(63);
        Due.is("put at 3", marks.box(0, 3), 1003);
        marks.turn(0, 30);
        Due.is("turned to 30", marks.box(0, 3), 1003);
        marks.turn(0, 4);
        Due.is("turned to 4", marks.box(0, 3), 1003);
        marks.set(BeltMarks.PLACE, 9);
        marks.pass(9);
        Due.is("later", marks.box(0, 3), 1003);
        BeltMarks at0 = Belts.slow(0);
        at0.arrive(4);
        at0.pass(60);
        Due.is("put at 0", at0.box(0, 3), 1000);
        BeltMarks at20 = Belts.slow(20);
        at20.arrive(30);
        at20.pass(80);
        Due.is("put at 20", at20.box(0, 3), 1020);
    }

    private static void thereIsNoneWithoutAMark() {
        Due.says("and 1000 (NONE without one)");
        BeltMarks marks = Belts.slow(0);
        marks.arrive(4);
        Due.is("new", marks.box(0, 3), BeltMarks.NONE);
        marks.pass(59);
        Due.is("ahead of its mark", marks.box(0, 3), BeltMarks.NONE);
        marks.pass(1);
        Due.is("marked", marks.box(0, 3), 1000);
        marks.undo();
        Due.is("undone", marks.box(0, 3), BeltMarks.NONE);
        BeltMarks starved = Belts.slow(0);
        starved.set(BeltMarks.SLACK, 5);
        starved.arrive(4);
        starved.pass(60);
        Due.is("its plan starved", starved.box(0, 3), BeltMarks.NONE);
    }

    private static void aBoxWasMarkedTwiceOrNot() {
        Due.says("4 whether it was marked twice (1 or 0)");
        BeltMarks marks = Belts.twice();
        Due.is("marked twice", marks.box(0, 4), 1);
        Due.is("the one behind it", marks.box(1, 4), 0);
        marks.undo();
        marks.pass(54);
        Due.is("marked once", marks.box(0, 4), 0);
        marks.pass(1);
        Due.is("marked twice again", marks.box(0, 4), 1);
        marks.pass(10);
        Due.is("later", marks.box(0, 4), 1);
        marks.pass(99);
        Due.is("both left", marks.count(1), 0);
        marks.set(BeltMarks.SPEED, 5);
        for (int box = 0; box < 8; box++) {
            marks.arrive(4);
            marks.pass(1);
            Due.is("a new one: marked twice", marks.box(box, 4), 0);
            Due.is("a new one: its mark", marks.box(box, 3), BeltMarks.NONE);
        }
    }

    private static void numbersAmongAllAreFrom0() {
        Due.says("5 its number among all that arrived, from 0");
        BeltMarks marks = Belts.row(8);
        for (int box = 0; box < 8; box++) {
            Due.is("box " + box, marks.box(box, 5), box);
        }
        Due.is("a ninth is refused", marks.arrive(4), BeltMarks.TOO_MANY);
        marks.pass(99);
        marks.arrive(4);
        Due.is("the one that was refused has no number", marks.box(0, 5), 8);
        marks.undo();
        marks.arrive(5);
        Due.is("the one that was undone has none", marks.box(0, 5), 8);
    }

    private static void boxWantsABox() {
        Due.says("NO_SUCH if there is no such box; BAD_VALUE if what is out of range.");
        for (int boxes = 0; boxes <= 8; boxes++) {
            BeltMarks marks = Belts.row(boxes);
            int[] none = {-1, boxes, boxes + 1, Integer.MIN_VALUE, Integer.MAX_VALUE};
            for (int box : none) {
                Due.is(boxes + " boxes: box(" + box + ", 1)", marks.box(box, 1), BeltMarks.NO_SUCH);
                Due.is(boxes + " boxes: box(" + box + ", 6)", marks.box(box, 6), BeltMarks.NO_SUCH);
            }
            for (int box = 0; box < boxes; box++) {
                Due.is(boxes + " boxes: box(" + box + ", 1)", marks.box(box, 1), 4);
            }
        }
        BeltMarks left = Belts.row(8);
        left.pass(21);
        Due.is("one left: box(7, 1)", left.box(7, 1), BeltMarks.NO_SUCH);
        Due.is("one left: box(6, 1)", left.box(6, 1), 4);
    }

    private static void boxWantsANumber() {
        Due.says("NO_SUCH if there is no such box; BAD_VALUE if what is out of range.");
        BeltMarks marks = new BeltMarks();
        marks.arrive(4);
        int[] wrong = {-1, 6, 7, -6, Integer.MIN_VALUE, Integer.MAX_VALUE};
        for (int what : wrong) {
            Due.is("box(0, " + what + ")", marks.box(0, what), BeltMarks.BAD_VALUE);
        }
        Due.is("box(0, 0)", marks.box(0, 0), 1000);
        Due.is("box(0, 5)", marks.box(0, 5), 0);
    }

    private static void aPlanIsToldWith1000() {
        Due.says("Returns the plan, and 1000; NO_SUCH if there is none at this place.");
        BeltMarks marks = Belts.slow(20);
        marks.arrive(4);
        marks.pass(20);
        Due.is("the greatest", marks.plan(0), 1060);
        marks.pass(59);
        Due.is("the least", marks.plan(0), 1001);
        marks.pass(1);
        Due.is("done", marks.plan(0), BeltMarks.NO_SUCH);
    }

    private static void planWantsAPlan() {
        Due.says("NO_SUCH if there is none at this place");
        for (int plans = 0; plans <= 8; plans++) {
            BeltMarks marks = Belts.slow(20);
            for (int i = 0; i < plans; i++) {
                marks.pass(5);
                marks.arrive(4);
            }
            marks.pass(20);
            int[] none = {-1, plans, plans + 1, Integer.MIN_VALUE, Integer.MAX_VALUE};
            for (int place : none) {
                Due.is(plans + " plans: plan(" + place + ")", marks.plan(place), BeltMarks.NO_SUCH);
            }
            for (int place = 0; place < plans; place++) {
                Due.is(plans + " plans: plan(" + place + ")", marks.plan(place), 1060 - 5 * (plans - 1 - place));
            }
        }
    }

    private static void plansAreMoreThanBoxes() {
        Due.says("Returns a plan, in the order in which they were made.");
        // A plan outlives its box: eight boxes one behind the other, the first of which leaves at
        // 104 with a plan for 113, and a ninth one that is seen 7 places later.
        BeltMarks marks = new BeltMarks();
        int[] settings = {5, 5, 0, 20, 1, 20, 1, 2};
        for (int setting = 0; setting < 8; setting++) {
            marks.set(setting, settings[setting]);
        }
        for (int i = 0; i < 8; i++) {
            marks.arrive(4);
            if (i < 7) {
                marks.pass(1);
            }
        }
        marks.set(BeltMarks.SPEED, 9);
        marks.pass(6);
        marks.set(BeltMarks.SPEED, 5);
        Due.is("the first one leaves", marks.pass(3), 1);
        Due.is("eight plans of seven boxes", marks.count(12) * 10 + marks.count(1), 87);
        Due.is("the ninth one", marks.arrive(4), 7);
        Due.is("the ninth one, turned", marks.turn(7, 30), 1013);
        marks.set(BeltMarks.SPEED, 7);
        marks.set(BeltMarks.LATE, 0);
        marks.pass(1);
        int[] due = {2, 11, 20, 29, 34, 35, 40, 41, 60};
        Due.is("plans", marks.count(12), due.length);
        for (int place = 0; place < due.length; place++) {
            Due.is("plan(" + place + ")", marks.plan(place), 1000 + due[place]);
        }
        Due.is("no tenth", marks.plan(9), BeltMarks.NO_SUCH);
        marks.set(BeltMarks.SPEED, 2);
        marks.pass(1);
        Due.is("one is done", marks.count(12), 8);
        Due.is("the next one is the first", marks.plan(0), 1009);
        Due.is("the last one", marks.plan(7), 1058);
    }

    private static void aReportComesInTheNextTick() {
        Due.says("0 how many ticks later it comes (1: in the next tick), 1 its excess");
        for (int late = 1; late <= 5; late++) {
            BeltMarks marks = new BeltMarks();
            marks.set(BeltMarks.LATE, late);
            marks.arrive(10);
            marks.pass(7);
            for (int more = late; more > 0; more--) {
                Due.is("late " + late + ": report(0, 0)", marks.report(0, 0), more);
                Due.is("late " + late + ": report(0, 1)", marks.report(0, 1), 1);
                marks.pass(1);
            }
            Due.is("late " + late + ": it came", marks.report(0, 0), BeltMarks.NO_SUCH);
            Due.is("late " + late + ": a plan", marks.count(12), 1);
        }
        BeltMarks least = Belts.slow(0);
        least.set(BeltMarks.LATE, 1);
        least.arrive(4);
        least.pass(20);
        Due.is("an excess of 0", least.report(0, 1), 0);
    }

    private static void reportWantsAReport() {
        Due.says("NO_SUCH if there is none at this place; BAD_VALUE if what is neither 0 nor 1.");
        // With speed 5 and LATE 5, up to six reports are on their way.
        for (int reports = 0; reports <= 6; reports++) {
            BeltMarks marks = new BeltMarks();
            marks.set(BeltMarks.SPEED, 5);
            marks.set(BeltMarks.LATE, 5);
            for (int i = 0; i < 3 + reports && i < 8; i++) {
                marks.arrive(4);
                marks.pass(1);
            }
            int there = Math.min(reports, 5);
            Due.is("reports", marks.count(11), there);
            int[] none = {-1, there, there + 1, Integer.MIN_VALUE, Integer.MAX_VALUE};
            for (int place : none) {
                Due.is(there + " reports: report(" + place + ", 0)", marks.report(place, 0), BeltMarks.NO_SUCH);
                Due.is(there + " reports: report(" + place + ", 1)", marks.report(place, 1), BeltMarks.NO_SUCH);
                Due.is(there + " reports: report(" + place + ", 2)", marks.report(place, 2), BeltMarks.NO_SUCH);
            }
            for (int place = 0; place < there; place++) {
                Due.is(there + " reports: report(" + place + ", 0)", marks.report(place, 0), 5 - (there - 1 - place));
                Due.is(there + " reports: report(" + place + ", 1)", marks.report(place, 1), 0);
            }
        }
    }

    private static void reportsMoveUp() {
        Due.says("Returns something about a report that is on its way, in the order in which they were made.");
        // Three with excesses of 1, 2 and 6, made one tick behind the other; the second one comes first.
        BeltMarks marks = Belts.slow(0);
        int[] late = {3, 1, 4};
        int[] speeds = {7, 6, 9};
        marks.arrive(4);
        marks.pass(5);
        marks.arrive(4);
        marks.pass(5);
        marks.arrive(4);
        marks.pass(4);
        for (int i = 0; i < 3; i++) {
            marks.set(BeltMarks.LATE, late[i]);
            marks.set(BeltMarks.SPEED, speeds[i]);
            marks.pass(1);
        }
        // The fronts were 14, 9, 4; then 21, 16, 11; then 27, 22, 17; then 36, 31, 26.
        Due.is("two of them: the first one's excess", marks.report(0, 1), 1);
        Due.is("two of them: when it comes", marks.report(0, 0), 1);
        Due.is("two of them: the third one's excess", marks.report(1, 1), 6);
        Due.is("two of them: when it comes", marks.report(1, 0), 4);
        Due.is("two of them: no third", marks.report(2, 0), BeltMarks.NO_SUCH);
        marks.set(BeltMarks.SPEED, 0);
        marks.pass(1);
        Due.is("one of them: its excess", marks.report(0, 1), 6);
        Due.is("one of them: when it comes", marks.report(0, 0), 3);
        Due.is("one of them: no second", marks.report(1, 1), BeltMarks.NO_SUCH);
        Due.is("the second one's plan", marks.plan(0), 1038);
        Due.is("the first one's plan", marks.plan(1), 1039);
        marks.pass(3);
        Due.is("none of them", marks.report(0, 0), BeltMarks.NO_SUCH);
        Due.is("the third one's plan", marks.plan(2), 1034);
    }

    private static void reportWants0Or1() {
        Due.says("BAD_VALUE if what is neither 0 nor 1");
        BeltMarks marks = new BeltMarks();
        marks.arrive(4);
        marks.pass(7);
        int[] wrong = {-1, 2, 3, Integer.MIN_VALUE, Integer.MAX_VALUE};
        for (int what : wrong) {
            Due.is("report(0, " + what + ")", marks.report(0, what), BeltMarks.BAD_VALUE);
        }
        Due.is("report(0, 0)", marks.report(0, 0), 2);
        Due.is("report(0, 1)", marks.report(0, 1), 1);
    }

    private static void ofThoseThatLeft() {
        Due.says("2 boxes that arrived, 3 good ones, 4 bad ones, 5 missed ones, of those that left");
        BeltMarks marks = new BeltMarks();
        marks.arrive(10);
        marks.pass(36);
        Due.is("a good mark", marks.box(0, 3), 1006);
        Due.is("on the belt: good", marks.count(3), 0);
        Due.is("on the belt: arrived", marks.count(2), 1);
        Due.is("on the belt: boxes", marks.count(1), 1);
        marks.pass(1);
        Due.is("left: good", marks.count(3), 1);
        Due.is("left: arrived", marks.count(2), 1);
        Due.is("left: boxes", marks.count(1), 0);
        marks.arrive(4);
        marks.pass(34);
        Due.is("on the belt: missed", marks.count(5), 0);
        marks.pass(1);
        Due.is("left: missed", marks.count(5), 1);
        marks.set(BeltMarks.NEAR, 0);
        marks.arrive(10);
        marks.pass(36);
        Due.is("on the belt: bad", marks.count(4), 0);
        marks.pass(1);
        Due.is("left: bad", marks.count(4), 1);
        Due.is("arrived", marks.count(2), 3);
        Due.is("good", marks.count(3), 1);
        Due.is("missed", marks.count(5), 1);
    }

    private static void countTellsWhatThereIs() {
        Due.says("6 marks on boxes, 7 marks on the belt, 8 boxes that were marked twice (each time), 9 plans that starved, 10 the slack, 11 reports on their way, 12 plans, 13 the way of the belt");
        BeltMarks twice = Belts.twice();
        int[] due = {86, 2, 2, 0, 0, 0, 2, 0, 1, 0, 15, 0, 0, 86};
        for (int what = 0; what < due.length; what++) {
            Due.is("marked twice: count(" + what + ")", twice.count(what), due[what]);
        }
        BeltMarks belt = new BeltMarks();
        belt.arrive(4);
        belt.pass(7);
        Due.is("a report", belt.count(11) * 10 + belt.count(12), 10);
        belt.pass(2);
        Due.is("a plan", belt.count(11) * 10 + belt.count(12), 1);
        belt.pass(13);
        Due.is("a mark on the belt", belt.count(6) * 10 + belt.count(7), 1);
        Due.is("neither a report nor a plan", belt.count(11) + belt.count(12), 0);
        BeltMarks starved = new BeltMarks();
        starved.set(BeltMarks.SLACK, 5);
        starved.arrive(10);
        starved.pass(22);
        Due.is("a plan that starved", starved.count(9), 1);
        Due.is("no mark", starved.count(6) + starved.count(7), 0);
    }

    private static void countTellsSettingsAndThePad() {
        Due.says("14 to 21 the settings, 22 the length of the pad, 23 how many changes can be undone");
        BeltMarks marks = new BeltMarks();
        int[] values = {9, 5, 4, 20, 19, 60, 8, 7};
        for (int setting = 0; setting < 8; setting++) {
            marks.set(setting, values[setting]);
        }
        for (int setting = 0; setting < 8; setting++) {
            Due.is("count(" + (14 + setting) + ")", marks.count(14 + setting), values[setting]);
        }
        Due.is("an empty pad", marks.count(22), 0);
        Due.type(marks, "b");
        Due.is("a pad with 1", marks.count(22), 1);
        Due.type(marks, "4;" + "w1;".repeat(19));
        Due.is("a pad with 60", marks.count(22), 60);
        marks.wipe();
        Due.is("a pad that was wiped", marks.count(22), 0);
    }

    private static void countTellsHowManyCanBeUndone() {
        Due.says("23 how many changes can be undone");
        BeltMarks marks = new BeltMarks();
        for (int changes = 0; changes <= 8; changes++) {
            Due.is("behind " + changes + " changes", marks.count(23), Math.min(changes, 6));
            marks.set(BeltMarks.SPEED, changes);
        }
        for (int left = 5; left >= 0; left--) {
            marks.undo();
            Due.is("behind an undo", marks.count(23), left);
        }
        marks.undo();
        Due.is("behind an undo that is not possible", marks.count(23), 0);
    }

    private static void countWantsANumber() {
        Due.says("Returns the number; BAD_VALUE if what is out of range.");
        BeltMarks marks = new BeltMarks();
        int[] wrong = {-1, 24, 25, -24, Integer.MIN_VALUE, Integer.MAX_VALUE};
        for (int what : wrong) {
            Due.is("count(" + what + ")", marks.count(what), BeltMarks.BAD_VALUE);
        }
        for (int what = 0; what <= 23; what++) {
            Due.isTrue("count(" + what + ")", marks.count(what) >= 0);
        }
    }
}
