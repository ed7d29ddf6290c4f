/** Promises 10 to 12: ifPass, bestGuess, neededSlack. */
public final class WhatIfTest {
    public static void main(String[] args) {
        ifPassTellsWhatComes();
        ifPassTellsStarvingAndMissing();
        ifPassRefusesWrongArguments();
        bestGuessIsTheLowestOfTheBest();
        bestGuessRefusesWrongArguments();
        neededSlackIsTheLeast();
        neededSlackIsUsedUpAndFed();
        neededSlackMindsTheMostSlack();
        neededSlackIsAtMost60();
        neededSlackRefusesWrongArguments();
        nothingChanges();
        Due.end();
    }

    /** A box of 10 that is marked in its tick 22, at 6, and leaves good in its tick 37. */
    private static BeltMarks oneBox() {
        BeltMarks marks = new BeltMarks();
        marks.arrive(10);
        return marks;
    }

    private static void ifPassTellsWhatComes() {
        BeltMarks marks = oneBox();
        Due.is("ifPass(21, 4)", marks.ifPass(21, 4), 0);
        Due.is("ifPass(22, 4)", marks.ifPass(22, 4), 1);
        Due.is("ifPass(21, 6)", marks.ifPass(21, 6), 20);
        Due.is("ifPass(22, 6)", marks.ifPass(22, 6), 15);
        Due.is("ifPass(26, 6)", marks.ifPass(26, 6), 19);
        Due.is("ifPass(36, 0)", marks.ifPass(36, 0), 0);
        Due.is("ifPass(37, 0)", marks.ifPass(37, 0), 1);
        Due.is("ifPass(99, 0)", marks.ifPass(99, 0), 1);
        Due.is("ifPass(99, 1)", marks.ifPass(99, 1), 0);
        Due.is("ifPass(99, 2)", marks.ifPass(99, 2), 0);
        Due.is("ifPass(99, 5)", marks.ifPass(99, 5), 0);
        marks.set(BeltMarks.NEAR, 1);
        Due.is("near 1: good", marks.ifPass(99, 0), 0);
        Due.is("near 1: bad", marks.ifPass(99, 1), 1);
        marks.pass(99);
        marks.arrive(10);
        Due.is("the second: bad in them alone", marks.ifPass(99, 1), 1);
        Due.is("the second: marks in them alone", marks.ifPass(99, 4), 1);
    }

    private static void ifPassTellsStarvingAndMissing() {
        BeltMarks belt = new BeltMarks();
        belt.arrive(4);
        Due.is("ifPass(22, 5)", belt.ifPass(22, 5), 1);
        Due.is("ifPass(21, 5)", belt.ifPass(21, 5), 0);
        Due.is("ifPass(34, 2)", belt.ifPass(34, 2), 0);
        Due.is("ifPass(35, 2)", belt.ifPass(35, 2), 1);
        BeltMarks starving = oneBox();
        starving.set(BeltMarks.LABEL, 20);
        starving.set(BeltMarks.SLACK, 19);
        Due.is("starving: ifPass(21, 3)", starving.ifPass(21, 3), 0);
        Due.is("starving: ifPass(22, 3)", starving.ifPass(22, 3), 1);
        Due.is("starving: ifPass(22, 6)", starving.ifPass(22, 6), 19);
        Due.is("starving: ifPass(99, 2)", starving.ifPass(99, 2), 1);
        starving.pass(99);
        Due.is("starving: none in them", starving.ifPass(99, 3), 0);
        Due.is("starving: none leaves in them", starving.ifPass(99, 2), 0);
    }

    private static void ifPassRefusesWrongArguments() {
        BeltMarks marks = oneBox();
        int[] ticks = {0, -1, 100, Integer.MIN_VALUE, Integer.MAX_VALUE};
        for (int wrong : ticks) {
            Due.is("ifPass(" + wrong + ", 0)", marks.ifPass(wrong, 0), BeltMarks.BAD_VALUE);
        }
        int[] whats = {-1, 7, Integer.MIN_VALUE, Integer.MAX_VALUE};
        for (int wrong : whats) {
            Due.is("ifPass(1, " + wrong + ")", marks.ifPass(1, wrong), BeltMarks.BAD_VALUE);
        }
    }

    private static void bestGuessIsTheLowestOfTheBest() {
        // The mark's place: 12 (beyond the box), 9, 6, 3, 0 with GUESS 0 to 4; none with 5.
        BeltMarks marks = oneBox();
        Due.is("bestGuess(99, 0)", marks.bestGuess(99, 0), 2);
        Due.is("bestGuess(99, 1)", marks.bestGuess(99, 1), 1);
        Due.is("bestGuess(37, 0)", marks.bestGuess(37, 0), 2);
        Due.is("bestGuess(36, 0)", marks.bestGuess(36, 0), 0);
        Due.is("bestGuess(36, 1)", marks.bestGuess(36, 1), 0);
        marks.set(BeltMarks.NEAR, 5);
        Due.is("near 5: bestGuess(99, 0)", marks.bestGuess(99, 0), 1);
        marks.set(BeltMarks.NEAR, 1);
        Due.is("near 1: bestGuess(99, 0)", marks.bestGuess(99, 0), 3);
        marks.set(BeltMarks.NEAR, 0);
        Due.is("near 0: bestGuess(99, 0)", marks.bestGuess(99, 0), 0);
        Due.is("near 0: bestGuess(99, 1)", marks.bestGuess(99, 1), 0);
        // For PLACE 0 the mark's place is 6, 3, 0 with GUESS 0 to 2.
        marks.set(BeltMarks.PLACE, 0);
        Due.is("place 0: bestGuess(99, 0)", marks.bestGuess(99, 0), 2);
        Due.is("place 0: bestGuess(99, 1)", marks.bestGuess(99, 1), 1);
        marks.set(BeltMarks.NEAR, 3);
        Due.is("place 0, near 3: bestGuess(99, 0)", marks.bestGuess(99, 0), 1);
        marks.pass(99);
        marks.set(BeltMarks.GUESS, 4);
        marks.arrive(10);
        Due.is("later: bestGuess(99, 0)", marks.bestGuess(99, 0), 1);
        Due.is("later: bestGuess(99, 1)", marks.bestGuess(99, 1), 1);
        BeltMarks highest = new BeltMarks();
        highest.set(BeltMarks.LATE, 5);
        highest.set(BeltMarks.NEAR, 0);
        highest.set(BeltMarks.PLACE, 6);
        highest.arrive(10);
        Due.is("late 5: bestGuess(99, 0)", highest.bestGuess(99, 0), 5);
    }

    private static void bestGuessRefusesWrongArguments() {
        BeltMarks marks = oneBox();
        int[] ticks = {0, -1, 100, Integer.MIN_VALUE, Integer.MAX_VALUE};
        for (int wrong : ticks) {
            Due.is("bestGuess(" + wrong + ", 0)", marks.bestGuess(wrong, 0), BeltMarks.BAD_VALUE);
        }
        int[] whats = {-1, 2, Integer.MIN_VALUE, Integer.MAX_VALUE};
        for (int wrong : whats) {
            Due.is("bestGuess(1, " + wrong + ")", marks.bestGuess(1, wrong), BeltMarks.BAD_VALUE);
        }
    }

    private static void neededSlackIsTheLeast() {
        for (int label = 1; label <= 20; label++) {
            BeltMarks marks = oneBox();
            marks.set(BeltMarks.LABEL, label);
            marks.set(BeltMarks.FEED, 0);
            Due.is("label " + label + ": neededSlack(21)", marks.neededSlack(21), 0);
            Due.is("label " + label + ": neededSlack(22)", marks.neededSlack(22), label);
            Due.is("label " + label + ": neededSlack(99)", marks.neededSlack(99), label);
            marks.pass(22);
            Due.is("label " + label + ": behind it", marks.neededSlack(99), 0);
        }
    }

    private static void neededSlackIsUsedUpAndFed() {
        BeltMarks marks = new BeltMarks();
        marks.set(BeltMarks.SPEED, 5);
        marks.set(BeltMarks.LABEL, 20);
        marks.set(BeltMarks.SLACK, 60);
        marks.set(BeltMarks.FEED, 0);
        for (int i = 0; i < 3; i++) {
            marks.arrive(4);
            marks.pass(1);
        }
        marks.pass(6);
        Due.is("three plans", marks.count(12), 3);
        Due.is("three labels", marks.neededSlack(99), 60);
        Due.is("the slack of now does not matter", marks.count(10), 20);
        marks.set(BeltMarks.FEED, 1);
        // The plans are due in tick 4, 5 and 6 from now: five feeds ahead of the last one.
        Due.is("plan(0)", marks.plan(0), 1000 + 44 - 10 - 15);
        Due.is("fed 5 times", marks.neededSlack(99), 55);
        Due.is("up to the second", marks.neededSlack(5), 36);
        Due.is("up to the first", marks.neededSlack(4), 17);
        Due.is("ahead of the first", marks.neededSlack(3), 0);
        marks.set(BeltMarks.FEED, 9);
        Due.is("fed more", marks.neededSlack(99), 15);
        marks.set(BeltMarks.FEED, 0);
        marks.set(BeltMarks.SLACK, 59);
        Due.is("60 is above the most slack", marks.neededSlack(99), BeltMarks.NONE);
    }

    private static void neededSlackMindsTheMostSlack() {
        BeltMarks marks = new BeltMarks();
        marks.set(BeltMarks.SPEED, 1);
        marks.set(BeltMarks.LATE, 0);
        marks.set(BeltMarks.GUESS, 0);
        marks.set(BeltMarks.PLACE, 0);
        marks.arrive(10);
        marks.pass(58);
        marks.set(BeltMarks.LABEL, 20);
        marks.set(BeltMarks.SLACK, 5);
        Due.is("in 2 ticks: 1", marks.neededSlack(1), 0);
        Due.is("in 2 ticks: 2", marks.neededSlack(2), BeltMarks.NONE);
        marks.undo();
        marks.pass(1);
        marks.set(BeltMarks.SLACK, 5);
        Due.is("in the next tick", marks.neededSlack(1), 20);
        Due.is("and behind it", marks.neededSlack(99), 20);
    }

    private static void neededSlackIsAtMost60() {
        BeltMarks marks = new BeltMarks();
        marks.set(BeltMarks.SPEED, 5);
        marks.set(BeltMarks.SLACK, 60);
        for (int i = 0; i < 4; i++) {
            marks.arrive(4);
            marks.pass(1);
        }
        marks.pass(8);
        Due.is("due in the next tick", marks.plan(0), 1004);
        Due.is("due in the fourth tick", marks.plan(3), 1019);
        marks.set(BeltMarks.LABEL, 15);
        Due.is("4 times 15, fed 3", marks.neededSlack(4), 57);
        marks.set(BeltMarks.LABEL, 16);
        Due.is("4 times 16, fed 3", marks.neededSlack(4), BeltMarks.NONE);
        marks.set(BeltMarks.FEED, 2);
        Due.is("4 times 16, fed 6", marks.neededSlack(4), 58);
    }

    private static void neededSlackRefusesWrongArguments() {
        BeltMarks marks = oneBox();
        int[] ticks = {0, -1, 100, Integer.MIN_VALUE, Integer.MAX_VALUE};
        for (int wrong : ticks) {
            Due.is("neededSlack(" + wrong + ")", marks.neededSlack(wrong), BeltMarks.BAD_VALUE);
        }
    }

    private static void nothingChanges() {
        BeltMarks asked = oneBox();
        BeltMarks other = oneBox();
        asked.pass(15);
        other.pass(15);
        Due.type(asked, "b4");
        Due.type(other, "b4");
        for (int ticks = 0; ticks <= 100; ticks += 20) {
            for (int what = 0; what < 7; what++) {
                asked.ifPass(ticks, what);
            }
            asked.bestGuess(ticks, 0);
            asked.bestGuess(ticks, 1);
            asked.neededSlack(ticks);
        }
        for (int what = 0; what < 24; what++) {
            Due.is("as before: count(" + what + ")", asked.count(what), other.count(what));
        }
        for (int what = 0; what < 6; what++) {
            Due.is("as before: box(0, " + what + ")", asked.box(0, what), other.box(0, what));
        }
        Due.is("as before: plan", asked.plan(0), other.plan(0));
        Due.is("as before: report", asked.report(0, 0), other.report(0, 0));
    }
}
