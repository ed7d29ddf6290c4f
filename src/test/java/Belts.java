/** Objects to test with, and all that they answer. */
final class Belts {
    private Belts() {
    }

    /**
     * A belt with speed 1 on which reports come at once, and nothing is guessed: a box that arrives
     * is at 20 in tick 20, and its plan is done when its front is 60 and the place behind it.
     */
    static BeltMarks slow(int place) {
        BeltMarks marks = new BeltMarks();
        marks.set(BeltMarks.SPEED, 1);
        marks.set(BeltMarks.LATE, 0);
        marks.set(BeltMarks.GUESS, 0);
        marks.set(BeltMarks.PLACE, place);
        return marks;
    }

    /** A belt with so many boxes of 4, each 6 places behind the one ahead of it, the last at 0. */
    static BeltMarks row(int boxes) {
        BeltMarks marks = new BeltMarks();
        for (int i = 0; i < boxes; i++) {
            if (i > 0) {
                marks.pass(2);
            }
            marks.arrive(4);
        }
        return marks;
    }

    /**
     * A belt with some of everything: boxes that left, a box that is marked, one that isn't, a plan,
     * two reports, six changes, a pad with a fault, and something saved in slot 0 alone.
     */
    static BeltMarks busy() {
        BeltMarks marks = new BeltMarks();
        Due.type(marks, "b10;w8;b6;w5;b5;w5;b4;w5;b9;w6;b12;w8");
        marks.carryOut();
        marks.save(0);
        for (int near = 3; near < 8; near++) {
            marks.set(BeltMarks.NEAR, near);
        }
        marks.set(BeltMarks.GUESS, 3);
        Due.type(marks, "b4;w1;x");
        return marks;
    }

    /** Marked twice: a box of 30, with its front at 86 and its mark at 26 in the place of one at 0. */
    static BeltMarks twice() {
        BeltMarks marks = slow(0);
        marks.arrive(30);
        marks.pass(31);
        marks.arrive(4);
        marks.set(BeltMarks.GUESS, 5);
        marks.pass(55);
        return marks;
    }

    /** Lets any number of ticks pass. */
    static void pass(BeltMarks marks, int ticks) {
        for (int left = ticks; left > 0; left -= 99) {
            marks.pass(Math.min(left, 99));
        }
    }

    /** All that can be asked: some 60 calls on a belt with three boxes. */
    static String look(BeltMarks marks) {
        StringBuilder all = new StringBuilder(state(marks));
        all.append(" pad ").append(marks.count(22)).append(" fault ").append(marks.fault());
        all.append(" undoable ").append(marks.count(23));
        return all.toString();
    }

    /** All that can be asked, but for the pad and the history. */
    static String state(BeltMarks marks) {
        StringBuilder all = new StringBuilder("counts");
        for (int what = 0; what < 22; what++) {
            all.append(' ').append(marks.count(what));
        }
        for (int box = 0; box < marks.count(1); box++) {
            all.append(", box");
            for (int what = 0; what < 6; what++) {
                all.append(' ').append(marks.box(box, what));
            }
        }
        for (int place = 0; place < marks.count(12); place++) {
            all.append(", plan ").append(marks.plan(place));
        }
        for (int place = 0; place < marks.count(11); place++) {
            all.append(", report ").append(marks.report(place, 0)).append(' ').append(marks.report(place, 1));
        }
        all.append(", then");
        for (int what = 0; what < 7; what++) {
            all.append(' ').append(marks.ifPass(40, what));
        }
        return all.toString();
    }

    /** What an object holds and does not show, told by going back: this changes it. */
    static String past(BeltMarks marks) {
        StringBuilder all = new StringBuilder();
        int undoable = marks.count(23);
        for (int i = 0; i <= undoable; i++) {
            all.append("undo ").append(marks.undo()).append(':');
            for (int what = 0; what < 22; what += 3) {
                all.append(' ').append(marks.count(what));
            }
            all.append("; ");
        }
        for (int slot = 0; slot < 2; slot++) {
            all.append("restore ").append(marks.restore(slot)).append(": ").append(state(marks)).append("; ");
        }
        return all.toString();
    }
}
