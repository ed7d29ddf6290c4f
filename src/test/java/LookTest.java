/** Promises 6 to 9: box, plan, report, count. */
public final class LookTest {
    public static void main(String[] args) {
        boxTellsAllOfABox();
        boxNamesItsErrorsInOrder();
        planTellsThePlans();
        reportTellsTheReports();
        countTellsEveryNumber();
        countRefusesOtherNumbers();
        lookingChangesNothing();
        Due.end();
    }

    /** One box that is marked, and one that is not seen yet. */
    private static BeltMarks twoBoxes() {
        BeltMarks marks = new BeltMarks();
        marks.arrive(10);
        marks.pass(18);
        marks.arrive(7);
        marks.pass(4);
        return marks;
    }

    private static void boxTellsAllOfABox() {
        BeltMarks marks = twoBoxes();
        int[] first = {1066, 10, 1, 1006, 0, 0};
        int[] second = {1012, 7, 0, BeltMarks.NONE, 0, 1};
        for (int what = 0; what < 6; what++) {
            Due.is("box(0, " + what + ")", marks.box(0, what), first[what]);
            Due.is("box(1, " + what + ")", marks.box(1, what), second[what]);
        }
        marks.turn(0, 20);
        Due.is("turned: front", marks.box(0, 0), 1071);
        Due.is("turned: the mark as it was put", marks.box(0, 3), 1006);
        BeltMarks low = new BeltMarks();
        low.arrive(30);
        low.turn(0, 4);
        Due.is("a front below 0", low.box(0, 0), 987);
    }

    private static void boxNamesItsErrorsInOrder() {
        BeltMarks marks = twoBoxes();
        int[] none = {-1, 2, 8, Integer.MIN_VALUE, Integer.MAX_VALUE};
        for (int box : none) {
            Due.is("box(" + box + ", 0)", marks.box(box, 0), BeltMarks.NO_SUCH);
            Due.is("box(" + box + ", 6)", marks.box(box, 6), BeltMarks.NO_SUCH);
        }
        int[] wrong = {-1, 6, Integer.MIN_VALUE, Integer.MAX_VALUE};
        for (int what : wrong) {
            Due.is("box(1, " + what + ")", marks.box(1, what), BeltMarks.BAD_VALUE);
        }
    }

    private static void planTellsThePlans() {
        BeltMarks marks = new BeltMarks();
        marks.set(BeltMarks.SPEED, 5);
        marks.arrive(4);
        marks.pass(1);
        marks.arrive(4);
        marks.pass(6);
        Due.is("plan(0)", marks.plan(0), 1000 + 44 - 10 - 5);
        Due.is("plan(1)", marks.plan(1), 1000 + 44 - 10);
        int[] none = {2, -1, Integer.MIN_VALUE, Integer.MAX_VALUE};
        for (int place : none) {
            Due.is("plan(" + place + ")", marks.plan(place), BeltMarks.NO_SUCH);
        }
    }

    private static void reportTellsTheReports() {
        BeltMarks marks = new BeltMarks();
        marks.set(BeltMarks.SPEED, 5);
        marks.set(BeltMarks.LATE, 4);
        marks.arrive(4);
        marks.pass(1);
        marks.set(BeltMarks.SPEED, 6);
        marks.arrive(4);
        marks.pass(3);
        marks.set(BeltMarks.SPEED, 4);
        marks.pass(1);
        Due.is("report(0, 0)", marks.report(0, 0), 3);
        Due.is("report(0, 1)", marks.report(0, 1), 3);
        Due.is("report(1, 0)", marks.report(1, 0), 4);
        Due.is("report(1, 1)", marks.report(1, 1), 2);
        int[] none = {2, -1, Integer.MIN_VALUE, Integer.MAX_VALUE};
        for (int place : none) {
            Due.is("report(" + place + ", 0)", marks.report(place, 0), BeltMarks.NO_SUCH);
            Due.is("report(" + place + ", 2)", marks.report(place, 2), BeltMarks.NO_SUCH);
        }
        int[] wrong = {-1, 2, Integer.MIN_VALUE, Integer.MAX_VALUE};
        for (int what : wrong) {
            Due.is("report(1, " + what + ")", marks.report(1, what), BeltMarks.BAD_VALUE);
        }
        marks.pass(3);
        Due.is("the second is the first", marks.report(0, 0), 1);
        Due.is("its excess", marks.report(0, 1), 2);
        Due.is("no second", marks.report(1, 0), BeltMarks.NO_SUCH);
    }

    private static void countTellsEveryNumber() {
        BeltMarks marks = new BeltMarks();
        Due.type(marks, "b10;w99");
        for (int i = 0; i < 8; i++) {
            marks.set(i, i + 1 < 6 ? i + 1 : 6);
        }
        // SPEED 1, LATE 2, GUESS 3, PLACE 4, LABEL 5, SLACK 6, FEED 6, NEAR 6.
        int[] due = {0, 0, 0, 0, 0, 0, 0, 0, 0, 0, 20, 0, 0, 0, 1, 2, 3, 4, 5, 6, 6, 6, 7, 6};
        for (int what = 0; what < due.length; what++) {
            Due.is("set: count(" + what + ")", marks.count(what), due[what]);
        }
        marks.carryOut();
        marks.set(BeltMarks.SPEED, 3);
        marks.arrive(4);
        marks.pass(7);
        // The box of 10 leaves with a mark: seen at 20, plan 44 - 3 in the tick at 22, done at 63.
        int[] then = {106, 1, 2, 1, 0, 0, 1, 0, 0, 0, 6, 1, 0, 120, 3, 2, 3, 4, 5, 6, 6, 6, 0, 6};
        for (int what = 0; what < then.length; what++) {
            Due.is("then: count(" + what + ")", marks.count(what), then[what]);
        }
        // The box of 4: the plan is 43 - 6 when it is at 27, and done when its back is at 62.
        marks.set(BeltMarks.GUESS, 2);
        marks.pass(2);
        Due.is("a plan", marks.count(12), 1);
        Due.is("no report", marks.count(11), 0);
        marks.pass(13);
        Due.is("a mark on the belt", marks.count(7), 1);
        Due.is("a mark on a box", marks.count(6), 1);
    }

    private static void countRefusesOtherNumbers() {
        BeltMarks marks = new BeltMarks();
        int[] wrong = {-1, 24, 100, Integer.MIN_VALUE, Integer.MAX_VALUE};
        for (int what : wrong) {
            Due.is("count(" + what + ")", marks.count(what), BeltMarks.BAD_VALUE);
        }
    }

    private static void lookingChangesNothing() {
        BeltMarks marks = twoBoxes();
        int recorded = marks.count(23);
        for (int i = -1; i < 25; i++) {
            marks.box(0, i);
            marks.plan(i);
            marks.report(i, 0);
            marks.count(i);
        }
        Due.is("recorded", marks.count(23), recorded);
        Due.is("front", marks.box(0, 0), 1066);
    }
}
