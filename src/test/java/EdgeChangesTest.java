import java.util.function.ToIntFunction;

/** Edges that promises 1 to 5 name: a new object, set, arrive, turn, pass. */
public final class EdgeChangesTest {
    private static final int[] LOWEST = {0, 0, 0, 0, 1, 1, 0, 0};
    private static final int[] HIGHEST = {9, 5, 5, 20, 20, 60, 9, 9};

    public static void main(String[] args) {
        aNewBeltIsEmpty();
        reportsComeWhenTheyWereToCome();
        setReturnsThePreviousValue();
        setWantsASetting();
        setWantsAValueInItsRange();
        anArrivingBoxHasItsFrontAt0();
        arriveWantsALengthFrom4To30();
        arriveReturnsItsNumberOnTheBelt();
        arriveWantsLessThan8Boxes();
        arriveWantsTheLatestBackAt1();
        aTurnIsRoundedDown();
        aTurnedBoxIsNotSeenAgain();
        turnReturnsTheFront();
        turnWantsABox();
        turnWantsALengthFrom4To30();
        turnLeaves1Ahead();
        turnLeaves1Behind();
        passTakes1To99Ticks();
        passReturnsHowManyLeave();
        passWantsAtMost20000Ticks();
        passCountsTheTicksThatStand();
        theseAreChanges();
        Due.end();
    }

    private static void aNewBeltIsEmpty() {
        Due.says("Creates an empty belt ahead of its first tick.");
        BeltMarks marks = new BeltMarks();
        int[] first = {0, 0, 0, 0, 0, 0, 0, 0, 0, 0, 20, 0, 0, 0, 3, 2, 2, 4, 6, 20, 1, 2, 0, 0};
        for (int what = 0; what < first.length; what++) {
            Due.is("count(" + what + ")", marks.count(what), first[what]);
        }
        Due.is("no box", marks.box(0, 0), BeltMarks.NO_SUCH);
        Due.is("no plan", marks.plan(0), BeltMarks.NO_SUCH);
        Due.is("no report", marks.report(0, 0), BeltMarks.NO_SUCH);
        Due.is("no text", marks.fault(), 0);
        Due.is("no change", marks.undo(), BeltMarks.NOT_POSSIBLE);
        Due.is("nothing saved in 0", marks.restore(0), BeltMarks.NOT_POSSIBLE);
        Due.is("nothing saved in 1", marks.restore(1), BeltMarks.NOT_POSSIBLE);
        Due.is("no tick's way is known", firstPlanWithGuess5(), 1000 + 40 - 2 - 9);
    }

    private static int firstPlanWithGuess5() {
        BeltMarks marks = Belts.slow(0);
        marks.set(BeltMarks.GUESS, 5);
        marks.set(BeltMarks.SPEED, 9);
        marks.arrive(4);
        marks.turn(0, 30);
        marks.pass(1);
        return marks.plan(0);
    }

    private static void reportsComeWhenTheyWereToCome() {
        Due.says("Changes a setting (reports that are on their way come when they were to come).");
        for (int late = 0; late <= 5; late++) {
            BeltMarks marks = Belts.slow(0);
            marks.set(BeltMarks.LATE, 3);
            marks.arrive(4);
            marks.pass(20);
            marks.set(BeltMarks.LATE, late);
            Due.is("late " + late + ": as it was to come", marks.report(0, 0), 3);
            marks.pass(2);
            Due.is("late " + late + ": in the next tick", marks.report(0, 0), 1);
            Due.is("late " + late + ": no plan", marks.count(12), 0);
            marks.pass(1);
            Due.is("late " + late + ": it came", marks.count(11), 0);
            Due.is("late " + late + ": the plan", marks.plan(0), 1040);
        }
    }

    private static void setReturnsThePreviousValue() {
        Due.says("Returns the previous value; BAD_VALUE if there is no such setting, or the value is out of its range.");
        int[] first = {3, 2, 2, 4, 6, 20, 1, 2};
        for (int setting = 0; setting < 8; setting++) {
            BeltMarks marks = new BeltMarks();
            Due.is("the first value of " + setting, marks.set(setting, LOWEST[setting]), first[setting]);
            Due.is("the lowest value of " + setting, marks.set(setting, HIGHEST[setting]), LOWEST[setting]);
            Due.is("the highest value of " + setting, marks.set(setting, HIGHEST[setting]), HIGHEST[setting]);
            for (int other = 0; other < 8; other++) {
                Due.is(setting + " set: " + other, marks.count(14 + other), other == setting ? HIGHEST[other] : first[other]);
            }
        }
    }

    private static void setWantsASetting() {
        Due.says("BAD_VALUE if there is no such setting, or the value is out of its range");
        int[] none = {-1, 8, 14, Integer.MIN_VALUE, Integer.MAX_VALUE};
        for (int setting : none) {
            BeltMarks marks = new BeltMarks();
            Due.is("set(" + setting + ", 1)", marks.set(setting, 1), BeltMarks.BAD_VALUE);
            Due.is("changes", marks.count(23), 0);
        }
        BeltMarks marks = new BeltMarks();
        Due.is("set(0, 1)", marks.set(0, 1), 3);
        Due.is("set(7, 1)", marks.set(7, 1), 2);
    }

    private static void setWantsAValueInItsRange() {
        Due.says("BAD_VALUE if there is no such setting, or the value is out of its range");
        for (int setting = 0; setting < 8; setting++) {
            BeltMarks marks = new BeltMarks();
            int[] wrong = {LOWEST[setting] - 1, HIGHEST[setting] + 1, Integer.MIN_VALUE, Integer.MAX_VALUE};
            for (int value : wrong) {
                Due.is("set(" + setting + ", " + value + ")", marks.set(setting, value), BeltMarks.BAD_VALUE);
            }
            Due.is("changes behind errors", marks.count(23), 0);
            int[] right = {LOWEST[setting], LOWEST[setting] + 1, HIGHEST[setting] - 1, HIGHEST[setting]};
            for (int value : right) {
                Due.isTrue("set(" + setting + ", " + value + ")", marks.set(setting, value) >= 0);
                Due.is("then", marks.count(14 + setting), value);
            }
            Due.is("changes", marks.count(23), 4);
        }
    }

    private static void anArrivingBoxHasItsFrontAt0() {
        Due.says("A box arrives, with its front at 0.");
        BeltMarks marks = new BeltMarks();
        marks.arrive(30);
        Due.is("the first", marks.box(0, 0), 1000);
        marks.pass(11);
        marks.arrive(4);
        Due.is("the second", marks.box(1, 0), 1000);
        Due.is("the first, further on", marks.box(0, 0), 1033);
        Due.is("not seen", marks.box(1, 2), 0);
        Due.is("not marked", marks.box(1, 3), BeltMarks.NONE);
        Due.is("not marked twice", marks.box(1, 4), 0);
        Due.is("its number", marks.box(1, 5), 1);
    }

    private static void arriveWantsALengthFrom4To30() {
        Due.says("`length`: 4 to 30 Returns its number among the boxes on the belt; BAD_VALUE if length is out of range");
        int[] wrong = {3, 31, 2, 32, 0, -1, -4, Integer.MIN_VALUE, Integer.MAX_VALUE};
        for (int length : wrong) {
            BeltMarks marks = new BeltMarks();
            Due.is("arrive(" + length + ")", marks.arrive(length), BeltMarks.BAD_VALUE);
            Due.is("boxes", marks.count(1), 0);
            Due.is("arrived", marks.count(2), 0);
        }
        int[] right = {4, 5, 29, 30};
        for (int length : right) {
            BeltMarks marks = new BeltMarks();
            Due.is("arrive(" + length + ")", marks.arrive(length), 0);
            Due.is("its length", marks.box(0, 1), length);
        }
    }

    private static void arriveReturnsItsNumberOnTheBelt() {
        Due.says("Returns its number among the boxes on the belt");
        BeltMarks marks = new BeltMarks();
        for (int i = 0; i < 8; i++) {
            Due.is("arrive", marks.arrive(4), i);
            marks.pass(2);
        }
        marks.pass(19);
        Due.is("one left", marks.count(1), 7);
        Due.is("the ninth", marks.arrive(4), 7);
        Due.is("its number among all", marks.box(7, 5), 8);
        marks.pass(99);
        Due.is("all left", marks.count(1), 0);
        Due.is("the tenth", marks.arrive(4), 0);
        Due.is("its number among all", marks.box(0, 5), 9);
    }

    private static void arriveWantsLessThan8Boxes() {
        Due.says("TOO_MANY if there are 8 boxes on the belt");
        for (int boxes = 6; boxes <= 8; boxes++) {
            BeltMarks marks = Belts.row(boxes);
            marks.pass(2);
            Due.is("arrive behind " + boxes, marks.arrive(4), boxes < 8 ? boxes : BeltMarks.TOO_MANY);
            Due.is("arrived", marks.count(2), Math.min(boxes + 1, 8));
        }
        BeltMarks marks = Belts.row(8);
        marks.pass(20);
        Due.is("eight yet", marks.arrive(4), BeltMarks.TOO_MANY);
        marks.pass(1);
        Due.is("seven", marks.arrive(4), 7);
        Due.is("eight again, no room", marks.arrive(4), BeltMarks.TOO_MANY);
        marks.pass(1);
        Due.is("eight again, no room by a place or two", marks.arrive(4), BeltMarks.TOO_MANY);
    }

    private static void arriveWantsTheLatestBackAt1() {
        Due.says("NOT_POSSIBLE if the back of the latest box on the belt is below 1");
        for (int length = 4; length <= 30; length++) {
            for (int back = -1; back <= 2; back++) {
                BeltMarks marks = Belts.slow(0);
                marks.arrive(length);
                marks.pass(length + back);
                Due.is("length " + length + ", back " + back, marks.arrive(30), back < 1 ? BeltMarks.NOT_POSSIBLE : 1);
            }
        }
        BeltMarks latest = Belts.slow(0);
        latest.arrive(4);
        latest.pass(50);
        latest.arrive(10);
        latest.pass(10);
        Due.is("the latest one's back is 0, the first one's 56", latest.arrive(4), BeltMarks.NOT_POSSIBLE);
        latest.pass(1);
        Due.is("the latest one's back is 1", latest.arrive(4), 2);
        BeltMarks turned = new BeltMarks();
        turned.arrive(30);
        turned.turn(0, 4);
        Due.is("back -17", turned.arrive(4), BeltMarks.NOT_POSSIBLE);
        turned.pass(5);
        Due.is("back -2", turned.arrive(4), BeltMarks.NOT_POSSIBLE);
        turned.pass(1);
        Due.is("back 1", turned.arrive(4), 1);
    }

    private static void aTurnIsRoundedDown() {
        Due.says("its front becomes greater by the new length less the old one, divided by 2, rounded down (also if that is below 0)");
        for (int from = 4; from <= 30; from++) {
            BeltMarks marks = new BeltMarks();
            marks.arrive(from);
            marks.save(0);
            for (int to = 4; to <= 30; to++) {
                // Twice as much, a place more, so that it rounds down where it is below 0, too.
                int half = (to - from + 100) / 2 - 50;
                Due.is("turn from " + from + " to " + to, marks.turn(0, to), 1000 + half);
                Due.is("its length", marks.box(0, 1), to);
                marks.restore(0);
            }
        }
        BeltMarks marks = new BeltMarks();
        marks.arrive(10);
        Due.is("by 3", marks.turn(0, 13), 1001);
        Due.is("by -3", marks.turn(0, 10), 999);
        Due.is("by 0", marks.turn(0, 10), 999);
        Due.is("by -1", marks.turn(0, 9), 998);
        Due.is("by 1", marks.turn(0, 10), 998);
        Due.is("by -2", marks.turn(0, 8), 997);
        Due.is("by 2", marks.turn(0, 10), 998);
    }

    private static void aTurnedBoxIsNotSeenAgain() {
        Due.says("(A box that was seen is not seen again.)");
        for (int front = 19; front <= 20; front++) {
            BeltMarks marks = Belts.slow(0);
            marks.set(BeltMarks.LATE, 1);
            marks.arrive(30);
            marks.pass(front);
            int reports = front - 19;
            Due.is("front " + front + ": reports", marks.count(11), reports);
            Due.is("turned back", marks.turn(0, 4), 1000 + front - 13);
            Due.is("seen", marks.box(0, 2), reports);
            marks.pass(13);
            Due.is("at " + front + " again: plans", marks.count(12), reports);
            Due.is("at " + front + " again: reports", marks.count(11), 0);
            marks.pass(1);
            Due.is("at " + (front + 1) + ": plans", marks.count(12), reports);
            Due.is("at " + (front + 1) + ": reports", marks.count(11), 1 - reports);
            Due.is("at " + (front + 1) + ": seen", marks.box(0, 2), 1);
        }
    }

    private static void turnReturnsTheFront() {
        Due.says("Returns its front, and 1000; NO_SUCH if there is no such box");
        BeltMarks marks = Belts.slow(0);
        marks.arrive(30);
        Due.is("below 0", marks.turn(0, 4), 987);
        Due.is("box", marks.box(0, 0), 987);
        marks.pass(13);
        Due.is("at 0", marks.turn(0, 4), 1000);
        marks.pass(90);
        Due.is("beyond the end", marks.turn(0, 30), 1103);
        Due.is("box", marks.box(0, 0), 1103);
    }

    private static void turnWantsABox() {
        Due.says("NO_SUCH if there is no such box; BAD_VALUE if length is out of range; NOT_POSSIBLE");
        for (int boxes = 0; boxes <= 8; boxes++) {
            BeltMarks marks = Belts.row(boxes);
            int[] none = {-1, boxes, boxes + 1, Integer.MIN_VALUE, Integer.MAX_VALUE};
            for (int box : none) {
                Due.is(boxes + " boxes: turn(" + box + ", 4)", marks.turn(box, 4), BeltMarks.NO_SUCH);
            }
            for (int box = 0; box < boxes; box++) {
                Due.is(boxes + " boxes: turn(" + box + ", 4)", marks.turn(box, 4), 1000 + 6 * (boxes - 1 - box));
            }
        }
        BeltMarks left = Belts.row(2);
        left.pass(33);
        Due.is("one left", left.count(1), 1);
        Due.is("turn(1, 4)", left.turn(1, 4), BeltMarks.NO_SUCH);
        Due.is("turn(0, 4)", left.turn(0, 4), 1099);
    }

    private static void turnWantsALengthFrom4To30() {
        Due.says("`length`: 4 to 30 Returns its front, and 1000; NO_SUCH if there is no such box; BAD_VALUE if length is out of range");
        BeltMarks marks = new BeltMarks();
        marks.arrive(10);
        int[] wrong = {3, 31, 2, 32, 0, -1, -10, Integer.MIN_VALUE, Integer.MAX_VALUE};
        for (int length : wrong) {
            Due.is("turn(0, " + length + ")", marks.turn(0, length), BeltMarks.BAD_VALUE);
            Due.is("its length", marks.box(0, 1), 10);
            Due.is("its front", marks.box(0, 0), 1000);
        }
        Due.is("turn(0, 4)", marks.turn(0, 4), 997);
        Due.is("turn(0, 5)", marks.turn(0, 5), 997);
        Due.is("turn(0, 29)", marks.turn(0, 29), 1009);
        Due.is("turn(0, 30)", marks.turn(0, 30), 1009);
    }

    private static void turnLeaves1Ahead() {
        Due.says("NOT_POSSIBLE if there would be less than 1 between it and another one");
        for (int back = 1; back <= 15; back++) {
            BeltMarks marks = Belts.slow(0);
            marks.arrive(4);
            marks.pass(4 + back);
            marks.arrive(4);
            for (int length = 4; length <= 30; length++) {
                int front = (length - 4) / 2;
                int due = back - front < 1 ? BeltMarks.NOT_POSSIBLE : 1000 + front;
                Due.is("back " + back + ": turn(1, " + length + ")", marks.turn(1, length), due);
                if (due > 0) {
                    marks.undo();
                }
            }
            Due.is("its length is as before", marks.box(1, 1), 4);
        }
    }

    private static void turnLeaves1Behind() {
        Due.says("NOT_POSSIBLE if there would be less than 1 between it and another one");
        for (int back = 1; back <= 15; back++) {
            BeltMarks marks = Belts.slow(0);
            marks.arrive(4);
            marks.pass(4 + back);
            marks.arrive(4);
            for (int length = 4; length <= 30; length++) {
                int front = 4 + back + (length - 4) / 2;
                int due = front - length < 1 ? BeltMarks.NOT_POSSIBLE : 1000 + front;
                Due.is("back " + back + ": turn(0, " + length + ")", marks.turn(0, length), due);
                if (due > 0) {
                    marks.undo();
                }
            }
            Due.is("its length is as before", marks.box(0, 1), 4);
        }
        BeltMarks middle = Belts.row(3);
        Due.is("between two: by 2 to both", middle.turn(1, 6), 1007);
        Due.is("between two: by 1 behind", middle.turn(1, 7), BeltMarks.NOT_POSSIBLE);
        Due.is("its length", middle.box(1, 1), 6);
    }

    private static void passTakes1To99Ticks() {
        Due.says("`ticks`: 1 to 99 Returns how many boxes leave in them; BAD_VALUE if ticks is out of range");
        int[] wrong = {0, 100, -1, 101, Integer.MIN_VALUE, Integer.MAX_VALUE};
        BeltMarks marks = new BeltMarks();
        for (int ticks : wrong) {
            Due.is("pass(" + ticks + ")", marks.pass(ticks), BeltMarks.BAD_VALUE);
            Due.is("ticks", marks.count(0), 0);
        }
        Due.is("changes", marks.count(23), 0);
        int passed = 0;
        int[] right = {1, 2, 98, 99};
        for (int ticks : right) {
            Due.is("pass(" + ticks + ")", marks.pass(ticks), 0);
            passed += ticks;
            Due.is("ticks", marks.count(0), passed);
        }
        Due.is("changes", marks.count(23), 4);
    }

    private static void passReturnsHowManyLeave() {
        Due.says("Returns how many boxes leave in them");
        for (int boxes = 0; boxes <= 8; boxes++) {
            BeltMarks marks = Belts.row(8);
            // The first one is at 42, and leaves in tick 21; the others two ticks one behind the other.
            int ticks = 19 + 2 * boxes;
            Due.is("pass(" + ticks + ")", marks.pass(ticks), boxes);
            Due.is("boxes", marks.count(1), 8 - boxes);
            Due.is("none more in the next tick", marks.pass(1), 0);
        }
        BeltMarks good = new BeltMarks();
        good.arrive(10);
        Due.is("a good one", good.pass(37), 1);
        Due.is("good", good.count(3), 1);
        BeltMarks bad = new BeltMarks();
        bad.set(BeltMarks.NEAR, 0);
        bad.arrive(10);
        Due.is("a bad one", bad.pass(37), 1);
        Due.is("bad", bad.count(4), 1);
        BeltMarks missed = new BeltMarks();
        missed.arrive(4);
        Due.is("a missed one", missed.pass(35), 1);
        Due.is("missed", missed.count(5), 1);
        Due.is("again, in them alone", missed.pass(35), 0);
    }

    private static void passWantsAtMost20000Ticks() {
        Due.says("TOO_MANY if more than 20000 ticks would have passed");
        BeltMarks marks = new BeltMarks();
        Belts.pass(marks, 19901);
        Due.is("19901 and 100", marks.pass(100), BeltMarks.BAD_VALUE);
        Due.is("19901 and 99", marks.pass(99), 0);
        Due.is("ticks", marks.count(0), 20000);
        Due.is("20000 and 1", marks.pass(1), BeltMarks.TOO_MANY);
        Due.is("20000 and 99", marks.pass(99), BeltMarks.TOO_MANY);
        marks.undo();
        Due.is("19901 and 98", marks.pass(98), 0);
        Due.is("19999 and 2", marks.pass(2), BeltMarks.TOO_MANY);
        Due.is("ticks", marks.count(0), 19999);
        Due.is("19999 and 1", marks.pass(1), 0);
        Due.is("ticks", marks.count(0), 20000);
        Due.is("way", marks.count(13), 60000);
        BeltMarks near = new BeltMarks();
        Belts.pass(near, 19902);
        Due.is("19902 and 99", near.pass(99), BeltMarks.TOO_MANY);
        Due.is("ticks", near.count(0), 19902);
        Due.is("19902 and 98", near.pass(98), 0);
        Due.is("ticks", near.count(0), 20000);
    }

    private static void passCountsTheTicksThatStand() {
        Due.says("TOO_MANY if more than 20000 ticks would have passed");
        BeltMarks marks = new BeltMarks();
        marks.save(0);
        Belts.pass(marks, 20000);
        Due.is("pass(1)", marks.pass(1), BeltMarks.TOO_MANY);
        Due.type(marks, "s1;w0;s2");
        Due.is("an order of no tick", marks.carryOut(), 1);
        Due.type(marks, "s1;w1;s2");
        Due.is("an order of a tick", marks.carryOut(), 1);
        Due.is("the speed", marks.count(14), 1);
        Due.is("restore", marks.restore(0), 0);
        Due.is("pass(99)", marks.pass(99), 0);
        Due.is("ticks", marks.count(0), 99);
    }

    private static void change(String call, ToIntFunction<BeltMarks> made, int due) {
        BeltMarks marks = new BeltMarks();
        marks.arrive(10);
        marks.pass(8);
        String before = Belts.state(marks);
        Due.is(call, made.applyAsInt(marks), due);
        Due.is(call + ": changes", marks.count(23), 3);
        Due.differs(call, Belts.state(marks), before);
        Due.is(call + ": undo", marks.undo(), 2);
        Due.same(call + ": undone", Belts.state(marks), before);
    }

    private static void theseAreChanges() {
        Due.says("Changes a setting (reports that are on their way come when they were to come). This is a change.");
        change("set(LATE, 0)", x -> x.set(BeltMarks.LATE, 0), 2);
        Due.says("A box arrives, with its front at 0. This is a change.");
        change("arrive(4)", x -> x.arrive(4), 1);
        Due.says("(A box that was seen is not seen again.) This is a change.");
        change("turn(0, 11)", x -> x.turn(0, 11), 1024);
        Due.says("Lets ticks pass. This is a change.");
        change("pass(29)", x -> x.pass(29), 1);
    }
}
