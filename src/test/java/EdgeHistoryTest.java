import java.util.function.Consumer;

/** Edges that promises 17 to 19 name: undo, save, restore. */
public final class EdgeHistoryTest {
    private static final int[] WRONG_SLOTS = {-1, 2, 3, Integer.MIN_VALUE, Integer.MAX_VALUE};

    public static void main(String[] args) {
        everyChangeIsUndone();
        theWaysOfTheLatestTicksAreUndone();
        thePadIsNotUndone();
        theSlotsAreNotUndone();
        anUndoIsNotUndone();
        atMost6StatesAreKept();
        theOldestIsDropped();
        aChangeOfNothingIsRecorded();
        anErrorIsNotRecorded();
        ordersRecordNothingThemselves();
        undoReturnsHowManyAreLeft();
        undoIsNotPossibleWithoutAChange();
        saveKeepsEverything();
        saveIsNoChange();
        saveOverwritesItsSlotAlone();
        saveReturnsTheTicks();
        saveWantsASlot();
        restoreBringsBackWhatWasSavedLast();
        theSlotKeepsWhatWasSaved();
        restoreLeavesPadHistoryAndSlots();
        restoreIsAChange();
        restoreReturnsTheTicksThen();
        restoreWantsASlot();
        restoreWantsSomethingSaved();
        Due.end();
    }

    private static void undone(String change, Consumer<BeltMarks> made) {
        BeltMarks marks = Belts.busy();
        marks.wipe();
        String before = Belts.state(marks);
        made.accept(marks);
        Due.differs(change, Belts.state(marks), before);
        Due.is("undo of " + change, marks.undo(), 5);
        Due.same("undo of " + change, Belts.state(marks), before);
        Due.same("all ahead of " + change, Belts.past(marks), pastOfBusy());
    }

    /** With the oldest of its six states dropped. */
    private static String pastOfBusy() {
        BeltMarks marks = Belts.busy();
        marks.wipe();
        marks.set(BeltMarks.NEAR, 9);
        marks.undo();
        return Belts.past(marks);
    }

    private static void everyChangeIsUndone() {
        Due.says("Undoes the latest change: everything except the pad, the slots and the history is as it was before it.");
        undone("set", x -> x.set(BeltMarks.SPEED, 9));
        undone("arrive", x -> x.arrive(4));
        undone("turn", x -> x.turn(0, 11));
        undone("pass", x -> x.pass(1));
        undone("pass of many", x -> x.pass(99));
        undone("carryOut", x -> {
            Due.type(x, "b4;w9;s9;t0=9;w20");
            x.carryOut();
        });
        undone("restore", x -> x.restore(0));
        BeltMarks numbers = new BeltMarks();
        numbers.arrive(4);
        numbers.undo();
        numbers.arrive(4);
        Due.is("the number of the next box", numbers.box(0, 5), 0);
        Due.is("boxes that arrived", numbers.count(2), 1);
    }

    /** Five ticks with speeds 1 to 5, then a speed of 9. */
    private static BeltMarks withWays() {
        BeltMarks marks = Belts.slow(0);
        marks.set(BeltMarks.GUESS, 5);
        for (int speed = 1; speed <= 5; speed++) {
            marks.set(BeltMarks.SPEED, speed);
            marks.pass(1);
        }
        marks.set(BeltMarks.SPEED, 9);
        return marks;
    }

    private static int planOfANewBox(BeltMarks marks) {
        marks.arrive(4);
        marks.turn(0, 30);
        marks.pass(1);
        return marks.plan(0);
    }

    private static void theWaysOfTheLatestTicksAreUndone() {
        Due.says("everything except the pad, the slots and the history is as it was before it");
        int due = 1000 + 40 - 2 - (9 + 5 + 4 + 3 + 2);
        Due.is("without an undo", planOfANewBox(withWays()), due);
        for (int ticks = 1; ticks <= 6; ticks++) {
            BeltMarks undone = withWays();
            undone.pass(ticks);
            undone.undo();
            Due.is(ticks + " ticks undone", planOfANewBox(undone), due);
            BeltMarks restored = withWays();
            restored.save(1);
            restored.pass(ticks);
            restored.restore(1);
            Due.is("restored behind " + ticks + " ticks", planOfANewBox(restored), due);
            restored.undo();
            BeltMarks asked = withWays();
            asked.ifPass(ticks, 0);
            asked.bestGuess(ticks, 0);
            asked.neededSlack(ticks);
            Due.is("asked for " + ticks + " ticks", planOfANewBox(asked), due);
        }
    }

    private static void thePadIsNotUndone() {
        Due.says("everything except the pad, the slots and the history is as it was before it");
        BeltMarks marks = new BeltMarks();
        marks.put('w');
        marks.pass(1);
        marks.put('5');
        marks.undo();
        Due.is("the pad is longer yet", marks.count(22), 2);
        Due.is("and the text it was", marks.carryOut(), 1);
        Due.is("ticks", marks.count(0), 5);
        marks.undo();
        Due.is("a pad that was carried out is empty yet", marks.count(22), 0);
        Due.type(marks, "w1");
        marks.pass(1);
        marks.wipe();
        marks.undo();
        Due.is("a pad that was wiped is empty yet", marks.count(22), 0);
    }

    private static void theSlotsAreNotUndone() {
        Due.says("everything except the pad, the slots and the history is as it was before it");
        BeltMarks marks = new BeltMarks();
        marks.pass(3);
        marks.save(0);
        marks.undo();
        Due.is("ticks", marks.count(0), 0);
        Due.is("restore of what was undone", marks.restore(0), 3);
        Due.is("ticks", marks.count(0), 3);
        marks.pass(4);
        marks.save(0);
        marks.undo();
        Due.is("overwritten ahead of the undo", marks.restore(0), 7);
        Due.is("the other slot", marks.restore(1), BeltMarks.NOT_POSSIBLE);
    }

    private static void anUndoIsNotUndone() {
        Due.says("Undoes the latest change");
        BeltMarks marks = new BeltMarks();
        marks.set(BeltMarks.SPEED, 4);
        marks.set(BeltMarks.SPEED, 5);
        marks.set(BeltMarks.SPEED, 6);
        marks.undo();
        Due.is("the latest", marks.count(14), 5);
        marks.undo();
        Due.is("the one before it", marks.count(14), 4);
        marks.set(BeltMarks.SPEED, 9);
        Due.is("a new one in their place", marks.undo(), 1);
        Due.is("is undone", marks.count(14), 4);
        marks.undo();
        Due.is("the first", marks.count(14), 3);
    }

    private static void atMost6StatesAreKept() {
        Due.says("A history of at most 6 states is kept");
        for (int changes = 0; changes <= 14; changes++) {
            BeltMarks marks = new BeltMarks();
            for (int i = 0; i < changes; i++) {
                marks.pass(1);
            }
            int kept = Math.min(changes, 6);
            Due.is(changes + " changes", marks.count(23), kept);
            for (int left = kept - 1; left >= 0; left--) {
                Due.is(changes + " changes: undo", marks.undo(), left);
                Due.is(changes + " changes: ticks", marks.count(0), changes - kept + left);
            }
            Due.is(changes + " changes: no more", marks.undo(), BeltMarks.NOT_POSSIBLE);
            Due.is(changes + " changes: the oldest state", marks.count(0), changes - kept);
        }
    }

    private static void theOldestIsDropped() {
        Due.says("when one more is recorded, the oldest one is dropped");
        BeltMarks marks = new BeltMarks();
        for (int speed = 1; speed <= 7; speed++) {
            marks.set(BeltMarks.SPEED, speed);
        }
        for (int speed = 6; speed >= 1; speed--) {
            marks.undo();
            Due.is("speed", marks.count(14), speed);
        }
        Due.is("the first state was dropped", marks.undo(), BeltMarks.NOT_POSSIBLE);
        Due.is("speed", marks.count(14), 1);
        for (int speed = 2; speed <= 4; speed++) {
            marks.set(BeltMarks.SPEED, speed);
            marks.undo();
            marks.set(BeltMarks.SPEED, speed);
        }
        Due.is("undone ones are not kept", marks.count(23), 3);
        Due.is("undo", marks.undo(), 2);
        Due.is("speed", marks.count(14), 3);
    }

    private static void aChangeOfNothingIsRecorded() {
        Due.says("each method that is a change, and returns no error, records the state before it (also if nothing is different then)");
        BeltMarks marks = new BeltMarks();
        marks.arrive(10);
        Due.is("arrive", marks.count(23), 1);
        marks.set(BeltMarks.SPEED, 3);
        Due.is("set to the same", marks.count(23), 2);
        marks.turn(0, 10);
        Due.is("turn to the same", marks.count(23), 3);
        Due.type(marks, "w0");
        marks.carryOut();
        Due.is("carryOut of none", marks.count(23), 4);
        marks.save(0);
        marks.restore(0);
        Due.is("restore of the same", marks.count(23), 5);
        marks.set(BeltMarks.SPEED, 0);
        Due.is("set to 0, which returns 3", marks.count(23), 6);
        BeltMarks zeros = new BeltMarks();
        zeros.pass(1);
        Due.is("pass that returns 0", zeros.count(23), 1);
        zeros.set(BeltMarks.FEED, 0);
        zeros.set(BeltMarks.FEED, 0);
        Due.is("set that returns 0", zeros.count(23), 3);
        zeros.arrive(30);
        Due.is("arrive that returns 0", zeros.count(23), 4);
        zeros.turn(0, 4);
        Due.is("turn that returns a front below 0", zeros.count(23), 5);
        BeltMarks start = new BeltMarks();
        start.save(0);
        start.restore(0);
        Due.is("restore that returns 0", start.count(23), 1);
    }

    private static void anErrorIsNotRecorded() {
        Due.says("each method that is a change, and returns no error, records the state before it");
        BeltMarks marks = new BeltMarks();
        marks.arrive(10);
        Due.is("arrive", marks.arrive(4), BeltMarks.NOT_POSSIBLE);
        Due.is("arrive", marks.arrive(3), BeltMarks.BAD_VALUE);
        Due.is("turn", marks.turn(0, 31), BeltMarks.BAD_VALUE);
        Due.is("turn", marks.turn(1, 30), BeltMarks.NO_SUCH);
        Due.is("set", marks.set(0, 10), BeltMarks.BAD_VALUE);
        Due.is("pass", marks.pass(0), BeltMarks.BAD_VALUE);
        Due.is("carryOut", marks.carryOut(), BeltMarks.BAD_TEXT);
        Due.is("restore", marks.restore(0), BeltMarks.NOT_POSSIBLE);
        Due.is("restore", marks.restore(2), BeltMarks.BAD_VALUE);
        Due.is("one change", marks.count(23), 1);
        for (int i = 0; i < 9; i++) {
            marks.set(BeltMarks.SPEED, i);
        }
        for (int i = 0; i < 9; i++) {
            marks.pass(100);
        }
        Due.is("six changes", marks.count(23), 6);
        marks.undo();
        Due.is("the latest one is undone", marks.count(14), 7);
    }

    private static void ordersRecordNothingThemselves() {
        Due.says("An order of a text records nothing by itself.");
        BeltMarks marks = new BeltMarks();
        marks.set(BeltMarks.NEAR, 9);
        Due.type(marks, "s1;s2;s3;s4;s5;b4;w1;w1;w1;t0=4");
        Due.is("carryOut", marks.carryOut(), 10);
        Due.is("changes", marks.count(23), 2);
        Due.is("undo", marks.undo(), 1);
        Due.is("speed", marks.count(14), 3);
        Due.is("boxes", marks.count(2), 0);
        Due.is("undo", marks.undo(), 0);
        Due.is("NEAR", marks.count(21), 2);
    }

    private static void undoReturnsHowManyAreLeft() {
        Due.says("Returns how many changes can be undone then; NOT_POSSIBLE if there is none.");
        BeltMarks marks = new BeltMarks();
        marks.pass(1);
        marks.pass(1);
        Due.is("of two", marks.undo(), 1);
        Due.is("told by count, too", marks.count(23), 1);
        Due.is("of one", marks.undo(), 0);
        Due.is("told by count, too", marks.count(23), 0);
        Due.is("of none", marks.undo(), BeltMarks.NOT_POSSIBLE);
        Due.is("told by count, too", marks.count(23), 0);
    }

    private static void undoIsNotPossibleWithoutAChange() {
        Due.says("NOT_POSSIBLE if there is none");
        BeltMarks marks = new BeltMarks();
        Due.is("new", marks.undo(), BeltMarks.NOT_POSSIBLE);
        marks.put('w');
        marks.save(0);
        marks.wipe();
        Due.is("behind put, save and wipe", marks.undo(), BeltMarks.NOT_POSSIBLE);
        marks.pass(1);
        Due.is("behind a change", marks.undo(), 0);
        Due.is("behind the undo", marks.undo(), BeltMarks.NOT_POSSIBLE);
        Due.is("again", marks.undo(), BeltMarks.NOT_POSSIBLE);
        marks.pass(1);
        Due.is("behind another change", marks.undo(), 0);
    }

    private static void saveKeepsEverything() {
        Due.says("Saves everything except the pad, the history and the slots in a slot");
        for (int slot = 0; slot < 2; slot++) {
            BeltMarks marks = Belts.busy();
            String before = Belts.state(marks);
            marks.save(slot);
            Due.same("behind save", Belts.state(marks), before);
            marks.wipe();
            Due.type(marks, "w9;s1;w9;b4;w20;b30");
            marks.carryOut();
            for (int setting = 0; setting < 8; setting++) {
                marks.set(setting, 5);
            }
            Due.differs("all of it", Belts.state(marks), before);
            marks.restore(slot);
            Due.same("restored", Belts.state(marks), before);
        }
    }

    private static void saveIsNoChange() {
        Due.says("Saves everything except the pad, the history and the slots in a slot");
        BeltMarks marks = new BeltMarks();
        marks.pass(2);
        marks.save(0);
        marks.save(1);
        Due.is("changes", marks.count(23), 1);
        Due.is("undo", marks.undo(), 0);
        Due.is("ticks", marks.count(0), 0);
        Due.is("restore", marks.restore(1), 2);
    }

    private static void saveOverwritesItsSlotAlone() {
        Due.says("and overwrites what was saved there");
        BeltMarks marks = new BeltMarks();
        marks.pass(1);
        marks.save(0);
        marks.pass(1);
        marks.save(1);
        marks.pass(1);
        marks.save(0);
        marks.pass(1);
        Due.is("slot 0, overwritten", marks.restore(0), 3);
        Due.is("slot 1, as it was", marks.restore(1), 2);
        marks.save(1);
        marks.arrive(4);
        marks.pass(5);
        marks.save(1);
        Due.is("slot 0, as it was", marks.restore(0), 3);
        Due.is("no box in it", marks.count(1), 0);
        Due.is("slot 1, overwritten", marks.restore(1), 7);
        Due.is("a box in it", marks.count(1), 1);
    }

    private static void saveReturnsTheTicks() {
        Due.says("Returns how many ticks have passed; BAD_VALUE if there is no such slot.");
        BeltMarks marks = new BeltMarks();
        Due.is("no tick", marks.save(0), 0);
        marks.pass(1);
        Due.is("one", marks.save(0), 1);
        Due.is("one", marks.save(1), 1);
        Belts.pass(marks, 19999);
        Due.is("all", marks.save(1), 20000);
        Due.is("restored", marks.restore(0), 1);
        Due.is("restored", marks.restore(1), 20000);
    }

    private static void saveWantsASlot() {
        Due.says("`slot`: 0 or 1 Returns how many ticks have passed; BAD_VALUE if there is no such slot.");
        BeltMarks marks = new BeltMarks();
        for (int slot : WRONG_SLOTS) {
            Due.is("save(" + slot + ")", marks.save(slot), BeltMarks.BAD_VALUE);
        }
        Due.is("nothing in 0", marks.restore(0), BeltMarks.NOT_POSSIBLE);
        Due.is("nothing in 1", marks.restore(1), BeltMarks.NOT_POSSIBLE);
        Due.is("save(0)", marks.save(0), 0);
        Due.is("save(1)", marks.save(1), 0);
    }

    private static void restoreBringsBackWhatWasSavedLast() {
        Due.says("Restores what was saved last in a slot, which keeps it. This is a change.");
        BeltMarks marks = new BeltMarks();
        marks.save(0);
        marks.arrive(9);
        marks.pass(6);
        marks.save(0);
        marks.pass(60);
        Due.is("it left", marks.count(1), 0);
        Due.is("restore", marks.restore(0), 6);
        Due.is("its front", marks.box(0, 0), 1018);
        Due.is("its length", marks.box(0, 1), 9);
    }

    private static void theSlotKeepsWhatWasSaved() {
        Due.says("Restores what was saved last in a slot, which keeps it.");
        BeltMarks marks = new BeltMarks();
        marks.arrive(10);
        marks.pass(7);
        marks.save(1);
        String saved = Belts.state(marks);
        for (int time = 0; time < 4; time++) {
            Due.is("restore", marks.restore(1), 7);
            Due.same("time " + time, Belts.state(marks), saved);
            marks.turn(0, 11 + time);
            marks.pass(30);
            marks.set(BeltMarks.SPEED, time);
        }
        marks.undo();
        marks.undo();
        Due.is("restore behind undos", marks.restore(1), 7);
        Due.same("behind undos", Belts.state(marks), saved);
    }

    private static void restoreLeavesPadHistoryAndSlots() {
        Due.says("Saves everything except the pad, the history and the slots in a slot");
        BeltMarks marks = new BeltMarks();
        marks.pass(1);
        Due.type(marks, "w1");
        marks.save(0);
        marks.pass(1);
        marks.save(1);
        Due.type(marks, ";w2");
        marks.pass(1);
        Due.is("restore", marks.restore(0), 1);
        Due.is("the pad is as it is now", marks.count(22), 5);
        Due.is("the history goes on", marks.count(23), 4);
        Due.is("a slot saved later is there", marks.restore(1), 2);
        Due.is("carryOut", marks.carryOut(), 2);
        Due.is("restore", marks.restore(0), 1);
        Due.is("the pad is empty yet", marks.count(22), 0);
        Due.is("six changes", marks.count(23), 6);
    }

    private static void restoreIsAChange() {
        Due.says("Restores what was saved last in a slot, which keeps it. This is a change.");
        BeltMarks marks = new BeltMarks();
        marks.save(0);
        marks.pass(5);
        marks.arrive(4);
        String before = Belts.state(marks);
        Due.is("restore", marks.restore(0), 0);
        Due.is("changes", marks.count(23), 3);
        Due.is("undo", marks.undo(), 2);
        Due.same("undone", Belts.state(marks), before);
        Due.is("undo", marks.undo(), 1);
        Due.is("no box", marks.count(1), 0);
        for (int i = 0; i < 8; i++) {
            marks.restore(0);
        }
        Due.is("six changes", marks.count(23), 6);
    }

    private static void restoreReturnsTheTicksThen() {
        Due.says("Returns how many ticks have passed then; BAD_VALUE if there is no such slot; NOT_POSSIBLE if nothing was saved in it.");
        BeltMarks marks = new BeltMarks();
        marks.save(0);
        marks.pass(9);
        marks.save(1);
        marks.pass(9);
        Due.is("restore(0)", marks.restore(0), 0);
        Due.is("ticks", marks.count(0), 0);
        Due.is("restore(1)", marks.restore(1), 9);
        Due.is("ticks", marks.count(0), 9);
    }

    private static void restoreWantsASlot() {
        Due.says("`slot`: 0 or 1 Returns how many ticks have passed then; BAD_VALUE if there is no such slot");
        BeltMarks marks = new BeltMarks();
        for (int slot : WRONG_SLOTS) {
            Due.is("restore(" + slot + "), nothing saved", marks.restore(slot), BeltMarks.BAD_VALUE);
        }
        marks.save(0);
        marks.save(1);
        for (int slot : WRONG_SLOTS) {
            Due.is("restore(" + slot + ")", marks.restore(slot), BeltMarks.BAD_VALUE);
        }
        Due.is("restore(0)", marks.restore(0), 0);
        Due.is("restore(1)", marks.restore(1), 0);
    }

    private static void restoreWantsSomethingSaved() {
        Due.says("NOT_POSSIBLE if nothing was saved in it");
        for (int slot = 0; slot < 2; slot++) {
            BeltMarks marks = new BeltMarks();
            marks.pass(3);
            Due.is("new", marks.restore(slot), BeltMarks.NOT_POSSIBLE);
            marks.save(1 - slot);
            Due.is("the other one is saved", marks.restore(slot), BeltMarks.NOT_POSSIBLE);
            Due.is("the other one", marks.restore(1 - slot), 3);
            marks.save(slot);
            Due.is("saved", marks.restore(slot), 3);
        }
    }
}
