/** Promises 17 to 19: undo, save, restore. */
public final class GoingBackTest {
    public static void main(String[] args) {
        undoGoesBackSixChanges();
        undoRestoresEverything();
        undoRestoresEverythingOfMore();
        undoGoesBackAheadOfEachChange();
        reportsComeBack();
        marksComeBack();
        everyChangeIsRecorded();
        othersAreNotRecorded();
        undoLeavesPadAndSlots();
        saveKeepsEverything();
        slotsAreTwo();
        restoreIsAChange();
        aSlotCanBeOverwritten();
        Due.end();
    }

    /** A belt on which there is some of everything: a mark, a plan, a report, a box that left. */
    private static BeltMarks busy() {
        BeltMarks marks = new BeltMarks();
        Due.type(marks, "b10;w8;b6;w5;b5;w5;b4;w5;b9;w6;b12;w8");
        Due.is("busy", marks.carryOut(), 12);
        Due.isTrue("busy: left", marks.count(3) + marks.count(4) + marks.count(5) > 0);
        Due.isTrue("busy: marks", marks.count(6) > 0);
        Due.isTrue("busy: reports", marks.count(11) > 0);
        Due.isTrue("busy: plans", marks.count(12) > 0);
        return marks;
    }

    private static void undoGoesBackSixChanges() {
        BeltMarks marks = new BeltMarks();
        for (int speed = 0; speed < 9; speed++) {
            marks.set(BeltMarks.SPEED, speed);
            Due.is("changes", marks.count(23), Math.min(speed + 1, 6));
        }
        Due.is("an error drops none", marks.set(BeltMarks.SPEED, 10), BeltMarks.BAD_VALUE);
        for (int left = 5; left >= 0; left--) {
            Due.is("undo", marks.undo(), left);
            Due.is("speed", marks.count(14), left + 2);
            Due.is("changes left", marks.count(23), left);
        }
        Due.is("undo of none", marks.undo(), BeltMarks.NOT_POSSIBLE);
        Due.is("speed", marks.count(14), 2);
        marks.set(BeltMarks.SPEED, 7);
        Due.is("changes", marks.count(23), 1);
        Due.is("undo", marks.undo(), 0);
        Due.is("speed", marks.count(14), 2);
    }

    private static void undoRestoresEverything() {
        BeltMarks marks = busy();
        String before = Belts.state(marks);
        marks.pass(60);
        marks.undo();
        Due.same("undo of pass", Belts.state(marks), before);
        marks.turn(1, 20);
        marks.undo();
        Due.same("undo of turn", Belts.state(marks), before);
        for (int setting = 0; setting < 8; setting++) {
            marks.set(setting, 5);
            marks.undo();
        }
        Due.same("undo of set", Belts.state(marks), before);
    }

    private static void undoRestoresEverythingOfMore() {
        BeltMarks marks = busy();
        String before = Belts.state(marks);
        Due.type(marks, "w9;s9;w9;b20;w1");
        Due.is("a text", marks.carryOut(), 5);
        marks.undo();
        Due.same("undo of carryOut", Belts.state(marks), before);
        marks.save(0);
        marks.pass(3);
        String later = Belts.state(marks);
        marks.restore(0);
        Due.same("restore", Belts.state(marks), before);
        marks.undo();
        Due.same("undo of restore", Belts.state(marks), later);
        marks.undo();
        Due.same("undo of pass again", Belts.state(marks), before);
    }

    /** Each change behind another one, so that the state ahead of it is nowhere kept yet. */
    private static void undoGoesBackAheadOfEachChange() {
        for (int change = 0; change < 6; change++) {
            BeltMarks marks = busy();
            marks.save(0);
            marks.set(BeltMarks.NEAR, change + 3);
            String before = Belts.state(marks);
            switch (change) {
                case 0: Due.isTrue("turn", marks.turn(1, 20) >= 0); break;
                case 1: Due.isTrue("pass", marks.pass(9) >= 0); break;
                case 2: Due.isTrue("arrive", marks.arrive(5) >= 0); break;
                case 3: Due.type(marks, "w9;s1"); Due.is("carryOut", marks.carryOut(), 2); break;
                case 4: Due.is("restore", marks.restore(0), marks.count(0)); break;
                default: marks.set(BeltMarks.FEED, 9); break;
            }
            Due.differs("change " + change, Belts.state(marks), before);
            marks.undo();
            Due.same("undo of change " + change, Belts.state(marks), before);
        }
    }

    private static void reportsComeBack() {
        BeltMarks marks = new BeltMarks();
        marks.arrive(10);
        marks.pass(7);
        marks.save(0);
        marks.pass(50);
        marks.set(BeltMarks.LATE, 5);
        marks.set(BeltMarks.SPEED, 9);
        marks.arrive(10);
        marks.pass(3);
        Due.is("a later report: comes", marks.report(0, 0), 5);
        Due.is("a later report: excess", marks.report(0, 1), 7);
        marks.restore(0);
        Due.is("restored: comes", marks.report(0, 0), 2);
        Due.is("restored: excess", marks.report(0, 1), 1);
        Due.is("restored: no mark in 14 ticks", marks.ifPass(14, 4), 0);
        Due.is("restored: a mark in 15 ticks", marks.ifPass(15, 4), 1);
        marks.undo();
        Due.is("undone: comes", marks.report(0, 0), 5);
        Due.is("undone: excess", marks.report(0, 1), 7);
    }

    private static void marksComeBack() {
        BeltMarks marks = new BeltMarks();
        marks.arrive(10);
        marks.pass(22);
        marks.save(0);
        marks.pass(77);
        marks.set(BeltMarks.PLACE, 2);
        marks.arrive(10);
        marks.pass(21);
        Due.is("another mark", marks.box(0, 3), 1003);
        marks.restore(0);
        Due.is("the mark restored", marks.box(0, 3), 1006);
        marks.undo();
        Due.is("the restoring undone", marks.box(0, 3), 1003);
    }

    private static void everyChangeIsRecorded() {
        BeltMarks marks = new BeltMarks();
        marks.set(BeltMarks.SPEED, 3);
        Due.is("set, nothing different", marks.count(23), 1);
        marks.arrive(10);
        Due.is("arrive", marks.count(23), 2);
        marks.turn(0, 10);
        Due.is("turn, nothing different", marks.count(23), 3);
        marks.pass(1);
        Due.is("pass", marks.count(23), 4);
        Due.type(marks, "b3");
        marks.carryOut();
        Due.is("carryOut of nothing", marks.count(23), 5);
        marks.save(0);
        marks.restore(0);
        Due.is("restore, nothing different", marks.count(23), 6);
        for (int left = 5; left >= 0; left--) {
            Due.is("undo", marks.undo(), left);
        }
        Due.is("all undone", marks.count(2), 0);
    }

    private static void othersAreNotRecorded() {
        BeltMarks marks = new BeltMarks();
        marks.arrive(10);
        marks.set(8, 0);
        marks.set(0, 10);
        marks.arrive(3);
        marks.arrive(10);
        marks.turn(1, 5);
        marks.turn(0, 3);
        marks.pass(0);
        marks.carryOut();
        marks.restore(0);
        marks.restore(2);
        marks.save(0);
        marks.save(2);
        marks.put('b');
        marks.fault();
        marks.wipe();
        marks.ifPass(9, 0);
        marks.bestGuess(9, 0);
        marks.neededSlack(9);
        marks.box(0, 0);
        marks.count(0);
        Due.is("one change", marks.count(23), 1);
        Due.is("undo", marks.undo(), 0);
        Due.is("no change", marks.undo(), BeltMarks.NOT_POSSIBLE);
        Due.is("no box", marks.count(1), 0);
    }

    private static void undoLeavesPadAndSlots() {
        BeltMarks marks = new BeltMarks();
        marks.set(BeltMarks.SPEED, 5);
        marks.put('b');
        marks.save(1);
        marks.undo();
        Due.is("speed", marks.count(14), 3);
        Due.is("the pad stays", marks.count(22), 1);
        Due.is("the slot stays", marks.restore(1), 0);
        Due.is("as it was saved", marks.count(14), 5);
        Due.is("the pad stays", marks.count(22), 1);
        Due.is("a change", marks.count(23), 1);
        Due.type(new BeltMarks(), "w1");
        marks.wipe();
        Due.type(marks, "w1");
        marks.carryOut();
        marks.undo();
        Due.is("a pad that was carried out stays empty", marks.count(22), 0);
    }

    private static void saveKeepsEverything() {
        BeltMarks marks = busy();
        String before = Belts.state(marks);
        int ticks = marks.count(0);
        Due.is("save", marks.save(0), ticks);
        Due.same("behind save", Belts.state(marks), before);
        for (int setting = 0; setting < 8; setting++) {
            marks.set(setting, 5);
        }
        marks.pass(50);
        marks.arrive(20);
        Due.is("restore", marks.restore(0), ticks);
        Due.same("restore", Belts.state(marks), before);
        marks.pass(70);
        Due.is("restore again", marks.restore(0), ticks);
        Due.same("restore again", Belts.state(marks), before);
        Due.is("changes", marks.count(23), 6);
    }

    private static void slotsAreTwo() {
        BeltMarks marks = new BeltMarks();
        int[] wrong = {-1, 2, Integer.MIN_VALUE, Integer.MAX_VALUE};
        for (int slot : wrong) {
            Due.is("save(" + slot + ")", marks.save(slot), BeltMarks.BAD_VALUE);
            Due.is("restore(" + slot + ")", marks.restore(slot), BeltMarks.BAD_VALUE);
        }
        Due.is("restore(1) of nothing", marks.restore(1), BeltMarks.NOT_POSSIBLE);
        marks.pass(4);
        Due.is("save(1)", marks.save(1), 4);
        Due.is("restore(0) of nothing", marks.restore(0), BeltMarks.NOT_POSSIBLE);
        marks.pass(5);
        Due.is("save(0)", marks.save(0), 9);
        Due.is("restore(1)", marks.restore(1), 4);
        Due.is("restore(0)", marks.restore(0), 9);
        Due.is("restore(1)", marks.restore(1), 4);
    }

    private static void restoreIsAChange() {
        BeltMarks marks = new BeltMarks();
        marks.save(0);
        marks.pass(5);
        Due.is("restore", marks.restore(0), 0);
        Due.is("changes", marks.count(23), 2);
        Due.is("undo", marks.undo(), 1);
        Due.is("ticks", marks.count(0), 5);
        marks.pass(2);
        Due.is("restore", marks.restore(0), 0);
        Due.is("ticks", marks.count(0), 0);
    }

    private static void aSlotCanBeOverwritten() {
        BeltMarks marks = new BeltMarks();
        marks.save(0);
        marks.arrive(9);
        marks.pass(6);
        marks.save(0);
        marks.undo();
        marks.undo();
        Due.is("no box", marks.count(1), 0);
        Due.is("restore", marks.restore(0), 6);
        Due.is("a box", marks.box(0, 0), 1018);
    }
}
