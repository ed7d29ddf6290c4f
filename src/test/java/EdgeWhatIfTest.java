/** Edges that promises 10 to 12 name: ifPass, bestGuess, neededSlack. */
public final class EdgeWhatIfTest {
    private static final int[] WRONG_TICKS = {0, 100, -1, 101, Integer.MIN_VALUE, Integer.MAX_VALUE};

    public static void main(String[] args) {
        nothingChanges();
        ifPassGoesOnBehind20000();
        ifPassTellsWhatLeavesInThem();
        ifPassTellsPlansThatStarveInThem();
        ifPassTellsMarksInThem();
        ifPassTellsTheSlackBehindThem();
        ifPassTellsNothingOfBefore();
        ifPassTakes1To99Ticks();
        ifPassTakes0To6();
        theGuessWithTheMostIsFound();
        ofSeveralItIsTheLowest();
        theGuessIs0To5();
        onlyThoseThatLeaveInThemCount();
        bestGuessTellsHowMany();
        bestGuessTakes1To99Ticks();
        bestGuessTakes0And1();
        neededSlackIsTheLeast();
        neededSlackIs0To60();
        neededSlackAboveSlack();
        neededSlackInSomeTicks();
        noPlanNeedsNoSlack();
        neededSlackTakes1To99Ticks();
        Due.end();
    }

    private static void nothingChanges() {
        Due.says("Ahead of the calls `ifPass`, `bestGuess`, `neededSlack` the interface says: ---- what if; nothing changes.");
        BeltMarks asked = Belts.busy();
        BeltMarks other = Belts.busy();
        int[] ticks = {1, 50, 99};
        for (int many : ticks) {
            for (int what = 0; what < 7; what++) {
                asked.ifPass(many, what);
            }
            asked.bestGuess(many, 0);
            asked.bestGuess(many, 1);
            asked.neededSlack(many);
        }
        Due.same("behind them", Belts.look(asked), Belts.look(other));
        Due.same("ahead of them", Belts.past(asked), Belts.past(other));
    }

    private static void ifPassGoesOnBehind20000() {
        Due.says("Tells what some ticks would bring, if nothing else happens (however many have passed).");
        for (int ticks = 19999; ticks <= 20000; ticks++) {
            BeltMarks marks = new BeltMarks();
            Belts.pass(marks, ticks);
            marks.arrive(10);
            Due.is(ticks + ": good in 36", marks.ifPass(36, 0), 0);
            Due.is(ticks + ": good in 37", marks.ifPass(37, 0), 1);
            Due.is(ticks + ": marks in 22", marks.ifPass(22, 4), 1);
            Due.is(ticks + ": slack behind 22", marks.ifPass(22, 6), 15);
            Due.is(ticks + ": slack behind 99", marks.ifPass(99, 6), 20);
            Due.is(ticks + ": best guess", marks.bestGuess(99, 0), 2);
            Due.is(ticks + ": needed slack", marks.neededSlack(1), 0);
            Due.is(ticks + ": ticks", marks.count(0), ticks);
        }
    }

    private static void ifPassTellsWhatLeavesInThem() {
        Due.says("0 good ones, 1 bad ones, 2 missed ones that leave in them");
        // Marked at 3: a box of 10 leaves in tick 110, good with PLACE 5 and NEAR 2, not with 1.
        for (int near = 1; near <= 2; near++) {
            BeltMarks marks = Belts.slow(3);
            marks.arrive(10);
            marks.pass(63);
            marks.set(BeltMarks.PLACE, 5);
            marks.set(BeltMarks.NEAR, near);
            for (int ticks = 45; ticks <= 48; ticks++) {
                String when = "near " + near + ", " + ticks + " ticks";
                Due.is(when + ": good", marks.ifPass(ticks, 0), near == 2 && ticks >= 47 ? 1 : 0);
                Due.is(when + ": bad", marks.ifPass(ticks, 1), near == 1 && ticks >= 47 ? 1 : 0);
                Due.is(when + ": missed", marks.ifPass(ticks, 2), 0);
            }
        }
        BeltMarks missed = Belts.slow(4);
        missed.arrive(4);
        missed.pass(64);
        for (int ticks = 38; ticks <= 41; ticks++) {
            Due.is(ticks + " ticks: missed", missed.ifPass(ticks, 2), ticks >= 40 ? 1 : 0);
            Due.is(ticks + " ticks: good and bad", missed.ifPass(ticks, 0) + missed.ifPass(ticks, 1), 0);
        }
        BeltMarks eight = Belts.row(8);
        for (int ticks = 20; ticks <= 36; ticks++) {
            int left = (ticks - 19) / 2;
            int told = eight.ifPass(ticks, 0) + eight.ifPass(ticks, 1) + eight.ifPass(ticks, 2);
            Due.is(ticks + " ticks: all that leave", told, Math.min(left, 8));
        }
    }

    private static void ifPassTellsPlansThatStarveInThem() {
        Due.says("3 plans that starve in them");
        for (int slack = 5; slack <= 6; slack++) {
            BeltMarks marks = Belts.slow(0);
            marks.set(BeltMarks.SLACK, slack);
            marks.arrive(10);
            for (int ticks = 58; ticks <= 61; ticks++) {
                Due.is("slack " + slack + ", " + ticks + " ticks", marks.ifPass(ticks, 3), slack == 5 && ticks >= 60 ? 1 : 0);
            }
        }
    }

    private static void ifPassTellsMarksInThem() {
        Due.says("4 marks on boxes, 5 marks on the belt in them");
        for (int place = 3; place <= 4; place++) {
            BeltMarks marks = Belts.slow(place);
            marks.arrive(4);
            for (int ticks = 62; ticks <= 65; ticks++) {
                boolean done = ticks >= 60 + place;
                Due.is("place " + place + ", " + ticks + " ticks: on boxes", marks.ifPass(ticks, 4), done && place == 3 ? 1 : 0);
                Due.is("place " + place + ", " + ticks + " ticks: on the belt", marks.ifPass(ticks, 5), done && place == 4 ? 1 : 0);
            }
        }
        BeltMarks twice = Belts.twice();
        twice.undo();
        Due.is("both marks on the box", twice.ifPass(55, 4), 2);
        Due.is("the first one", twice.ifPass(54, 4), 1);
    }

    private static void ifPassTellsTheSlackBehindThem() {
        Due.says("6 the slack behind them");
        BeltMarks marks = Belts.slow(0);
        marks.set(BeltMarks.SLACK, 25);
        marks.arrive(10);
        int[] ticks = {1, 4, 5, 6, 59, 60, 61, 65, 66, 99};
        int[] slack = {21, 24, 25, 25, 25, 20, 21, 25, 25, 25};
        for (int i = 0; i < ticks.length; i++) {
            Due.is("slack behind " + ticks[i], marks.ifPass(ticks[i], 6), slack[i]);
        }
        marks.set(BeltMarks.SLACK, 7);
        Due.is("a greater slack becomes SLACK", marks.ifPass(1, 6), 7);
        Due.is("slack of now", marks.count(10), 20);
    }

    private static void ifPassTellsNothingOfBefore() {
        Due.says("2 missed ones that leave in them, 3 plans that starve in them, 4 marks on boxes, 5 marks on the belt in them");
        BeltMarks marks = Belts.slow(0);
        marks.set(BeltMarks.FEED, 0);
        // A good one, a bad one, one that is missed as its plan starves, and a mark on the belt.
        int[] lengths = {10, 10, 10, 4};
        int[] places = {0, 0, 0, 4};
        int[] labels = {1, 1, 20, 1};
        int[] then = {0, 20, 0, 4};
        int[] due = {0, 1, 2, 2};
        for (int i = 0; i < lengths.length; i++) {
            marks.set(BeltMarks.PLACE, places[i]);
            marks.set(BeltMarks.LABEL, labels[i]);
            marks.arrive(lengths[i]);
            marks.pass(70);
            marks.set(BeltMarks.PLACE, then[i]);
            for (int what = 0; what < 3; what++) {
                Due.is("box " + i + ": what " + what, marks.ifPass(40, what), what == due[i] ? 1 : 0);
            }
            marks.pass(40);
            for (int what = 0; what < 6; what++) {
                Due.is("behind box " + i + ": what " + what, marks.ifPass(99, what), 0);
            }
        }
        Due.is("good", marks.count(3), 1);
        Due.is("bad", marks.count(4), 1);
        Due.is("missed", marks.count(5), 2);
        Due.is("on boxes", marks.count(6), 2);
        Due.is("on the belt", marks.count(7), 1);
        Due.is("starved", marks.count(9), 1);
    }

    private static void ifPassTakes1To99Ticks() {
        Due.says("Returns the number; BAD_VALUE if an argument is out of range.");
        BeltMarks marks = Belts.slow(0);
        for (int what = 0; what < 7; what++) {
            for (int ticks : WRONG_TICKS) {
                Due.is("ifPass(" + ticks + ", " + what + ")", marks.ifPass(ticks, what), BeltMarks.BAD_VALUE);
            }
            Due.is("ifPass(1, " + what + ")", marks.ifPass(1, what), what == 6 ? 20 : 0);
            Due.is("ifPass(99, " + what + ")", marks.ifPass(99, what), what == 6 ? 20 : 0);
        }
        marks.set(BeltMarks.SLACK, 60);
        Due.is("1 tick is fed", marks.ifPass(1, 6), 21);
        Due.is("2 ticks are fed", marks.ifPass(2, 6), 22);
        BeltMarks missed = Belts.slow(4);
        missed.arrive(4);
        missed.pass(5);
        Due.is("it leaves in 99: 98", missed.ifPass(98, 2), 0);
        Due.is("it leaves in 99: 99", missed.ifPass(99, 2), 1);
    }

    private static void ifPassTakes0To6() {
        Due.says("Returns the number; BAD_VALUE if an argument is out of range.");
        BeltMarks marks = new BeltMarks();
        int[] wrong = {-1, 7, 8, -7, Integer.MIN_VALUE, Integer.MAX_VALUE};
        for (int what : wrong) {
            Due.is("ifPass(1, " + what + ")", marks.ifPass(1, what), BeltMarks.BAD_VALUE);
        }
        Due.is("ifPass(1, 0)", marks.ifPass(1, 0), 0);
        Due.is("ifPass(1, 6)", marks.ifPass(1, 6), 20);
        Due.is("ifPass(0, 7)", marks.ifPass(0, 7), BeltMarks.BAD_VALUE);
    }

    /** A box that is not seen so far, leaves in 96 ticks, and gets its mark LATE - GUESS behind PLACE. */
    private static BeltMarks guessing(int late, int near) {
        BeltMarks marks = Belts.slow(5);
        marks.set(BeltMarks.LATE, late);
        marks.set(BeltMarks.NEAR, near);
        marks.arrive(11);
        marks.pass(15);
        return marks;
    }

    /**
     * A box at 20 whose report was made with a LATE of 1, and one at 15, now with a LATE of 3: with
     * a NEAR of 1, the first one is good with a GUESS of 0 to 2, the second one with 2 to 4.
     */
    private static BeltMarks guessingForTwo(int near) {
        BeltMarks marks = Belts.slow(2);
        marks.set(BeltMarks.NEAR, near);
        marks.set(BeltMarks.LATE, 1);
        marks.arrive(4);
        marks.pass(5);
        marks.arrive(4);
        marks.pass(15);
        marks.set(BeltMarks.LATE, 3);
        return marks;
    }

    private static void theGuessWithTheMostIsFound() {
        Due.says("Finds the GUESS with which the most boxes would leave good in some ticks");
        for (int late = 0; late <= 5; late++) {
            BeltMarks marks = guessing(late, 0);
            for (int guess = 0; guess <= 5; guess++) {
                marks.set(BeltMarks.GUESS, guess);
                Due.is("late " + late + ": the guess", marks.bestGuess(99, 0), late);
                Due.is("late " + late + ": how many", marks.bestGuess(99, 1), 1);
                Due.is("late " + late + ": the setting is as before", marks.count(16), guess);
            }
        }
        BeltMarks two = guessingForTwo(1);
        Due.is("one is good with 0, both are with 2: the guess", two.bestGuess(99, 0), 2);
        Due.is("one is good with 0, both are with 2: how many", two.bestGuess(99, 1), 2);
    }

    private static void ofSeveralItIsTheLowest() {
        Due.says("of several the lowest one");
        for (int late = 0; late <= 5; late++) {
            for (int near = 0; near <= 9; near++) {
                BeltMarks marks = guessing(late, near);
                Due.is("late " + late + ", near " + near, marks.bestGuess(99, 0), Math.max(0, late - near));
                Due.is("late " + late + ", near " + near + ": how many", marks.bestGuess(99, 1), 1);
            }
        }
        BeltMarks two = guessingForTwo(0);
        Due.is("one is good with 1, the other with 3: the guess", two.bestGuess(99, 0), 1);
        Due.is("one is good with 1, the other with 3: how many", two.bestGuess(99, 1), 1);
        BeltMarks empty = new BeltMarks();
        empty.set(BeltMarks.GUESS, 5);
        Due.is("no box: the lowest of all", empty.bestGuess(99, 0), 0);
        Due.is("no box: how many", empty.bestGuess(99, 1), 0);
    }

    private static void theGuessIs0To5() {
        Due.says("Finds the GUESS with which the most boxes would leave good in some ticks");
        // A box that is turned behind the sensor gets its mark a place further than LATE tells.
        for (int late = 4; late <= 5; late++) {
            for (int near = 0; near <= 1; near++) {
                BeltMarks marks = Belts.slow(2);
                marks.set(BeltMarks.LATE, late);
                marks.set(BeltMarks.NEAR, near);
                marks.arrive(4);
                marks.pass(20);
                marks.turn(0, 6);
                String when = "a place too far, late " + late + ", near " + near;
                int needed = late + 1 - near;
                Due.is(when + ": how many", marks.bestGuess(99, 1), needed <= 5 ? 1 : 0);
                Due.is(when + ": the guess", marks.bestGuess(99, 0), needed <= 5 ? needed : 0);
            }
        }
        for (int near = 0; near <= 1; near++) {
            BeltMarks marks = Belts.slow(2);
            marks.set(BeltMarks.LATE, 0);
            marks.set(BeltMarks.NEAR, near);
            marks.arrive(4);
            marks.pass(20);
            marks.turn(0, 5);
            marks.turn(0, 4);
            Due.is("a place too near, near " + near + ": how many", marks.bestGuess(99, 1), near);
            Due.is("a place too near, near " + near + ": the guess", marks.bestGuess(99, 0), 0);
        }
    }

    private static void onlyThoseThatLeaveInThemCount() {
        Due.says("Finds the GUESS with which the most boxes would leave good in some ticks");
        BeltMarks marks = guessing(3, 0);
        Due.is("in 95: the guess", marks.bestGuess(95, 0), 0);
        Due.is("in 95: how many", marks.bestGuess(95, 1), 0);
        Due.is("in 96: the guess", marks.bestGuess(96, 0), 3);
        Due.is("in 96: how many", marks.bestGuess(96, 1), 1);
        marks.set(BeltMarks.GUESS, 3);
        marks.pass(96);
        Due.is("a good one left", marks.count(3), 1);
        Due.is("behind it: the guess", marks.bestGuess(99, 0), 0);
        Due.is("behind it: how many", marks.bestGuess(99, 1), 0);
        BeltMarks two = guessingForTwo(1);
        int[] ticks = {83, 84, 88, 89};
        int[] guess = {0, 0, 0, 2};
        int[] many = {0, 1, 1, 2};
        for (int i = 0; i < ticks.length; i++) {
            Due.is("two boxes, in " + ticks[i] + ": the guess", two.bestGuess(ticks[i], 0), guess[i]);
            Due.is("two boxes, in " + ticks[i] + ": how many", two.bestGuess(ticks[i], 1), many[i]);
        }
    }

    private static void bestGuessTellsHowMany() {
        Due.says("0 the setting, 1 how many");
        for (int boxes = 0; boxes <= 8; boxes++) {
            BeltMarks marks = new BeltMarks();
            int[] settings = {5, 5, 0, 0, 1, 20, 9, 0};
            for (int setting = 0; setting < 8; setting++) {
                marks.set(setting, settings[setting]);
            }
            // A row without more than a place between two: with a lower GUESS than LATE, each mark is
            // put on a box behind, and the first boxes are missed.
            for (int i = 0; i < boxes; i++) {
                if (i > 0) {
                    marks.pass(1);
                }
                marks.arrive(4);
            }
            Due.is(boxes + " boxes: how many", marks.bestGuess(99, 1), boxes);
            Due.is(boxes + " boxes: the setting", marks.bestGuess(99, 0), boxes == 0 ? 0 : 5);
        }
    }

    private static void bestGuessTakes1To99Ticks() {
        Due.says("BAD_VALUE if an argument is out of range");
        BeltMarks marks = new BeltMarks();
        for (int what = 0; what <= 1; what++) {
            for (int ticks : WRONG_TICKS) {
                Due.is("bestGuess(" + ticks + ", " + what + ")", marks.bestGuess(ticks, what), BeltMarks.BAD_VALUE);
            }
            Due.is("bestGuess(1, " + what + ")", marks.bestGuess(1, what), 0);
            Due.is("bestGuess(99, " + what + ")", marks.bestGuess(99, what), 0);
        }
        BeltMarks last = Belts.slow(0);
        last.arrive(10);
        last.pass(11);
        Due.is("it leaves in 99: 98", last.bestGuess(98, 1), 0);
        Due.is("it leaves in 99: 99", last.bestGuess(99, 1), 1);
        last.pass(98);
        Due.is("it leaves in 1", last.bestGuess(1, 1), 1);
    }

    private static void bestGuessTakes0And1() {
        Due.says("BAD_VALUE if an argument is out of range");
        BeltMarks marks = new BeltMarks();
        int[] wrong = {-1, 2, 3, Integer.MIN_VALUE, Integer.MAX_VALUE};
        for (int what : wrong) {
            Due.is("bestGuess(1, " + what + ")", marks.bestGuess(1, what), BeltMarks.BAD_VALUE);
        }
        Due.is("bestGuess(1, 0)", marks.bestGuess(1, 0), 0);
        Due.is("bestGuess(1, 1)", marks.bestGuess(1, 1), 0);
    }

    /** Boxes that are marked in tick 4, 5, 6 and 7 from now on. */
    private static BeltMarks fourPlans() {
        BeltMarks marks = new BeltMarks();
        marks.set(BeltMarks.SPEED, 5);
        marks.set(BeltMarks.SLACK, 60);
        for (int i = 0; i < 4; i++) {
            marks.arrive(4);
            marks.pass(1);
        }
        marks.pass(5);
        return marks;
    }

    private static void neededSlackIsTheLeast() {
        Due.says("Finds the least slack of now (0 to 60) with which no plan would starve in some ticks");
        for (int label = 1; label <= 20; label++) {
            for (int feed = 0; feed <= 9; feed++) {
                BeltMarks marks = fourPlans();
                marks.set(BeltMarks.LABEL, label);
                marks.set(BeltMarks.FEED, feed);
                int atTheFirst = 0;
                for (int plan = 1; plan <= 4; plan++) {
                    atTheFirst = Math.max(atTheFirst, plan * label - (plan - 1) * feed);
                }
                // Three feeds come ahead of the first plan, but not above 60.
                int due = atTheFirst > 60 ? BeltMarks.NONE : Math.max(0, atTheFirst - 3 * feed);
                Due.is("label " + label + ", feed " + feed, marks.neededSlack(99), due);
                Due.is("the slack is as before", marks.count(10), 29);
            }
        }
    }

    private static void neededSlackIs0To60() {
        Due.says("BAD_VALUE if ticks is out of range; NONE if there is none.");
        int[] labels = {15, 16, 17, 18, 19, 20, 20, 20};
        int[] feeds = {0, 1, 3, 4, 5, 6, 7, 9};
        int[] due = {60, BeltMarks.NONE, 59, 60, BeltMarks.NONE, BeltMarks.NONE, 59, 53};
        for (int i = 0; i < labels.length; i++) {
            BeltMarks marks = fourPlans();
            marks.pass(3);
            marks.set(BeltMarks.LABEL, labels[i]);
            marks.set(BeltMarks.FEED, feeds[i]);
            // Four labels from the next tick on, and three feeds between them.
            Due.is("label " + labels[i] + ", feed " + feeds[i], marks.neededSlack(4), due[i]);
        }
        BeltMarks marks = fourPlans();
        marks.pass(3);
        marks.set(BeltMarks.FEED, 0);
        marks.set(BeltMarks.LABEL, 20);
        Due.is("three labels of 20", marks.neededSlack(3), 60);
        Due.is("four labels of 20", marks.neededSlack(4), BeltMarks.NONE);
        marks.set(BeltMarks.LABEL, 1);
        Due.is("one label of 1", marks.neededSlack(1), 1);
    }

    private static void neededSlackAboveSlack() {
        Due.says("(if it is above SLACK, see step 6)");
        for (int most = 18; most <= 22; most++) {
            for (int ahead = 1; ahead <= 2; ahead++) {
                BeltMarks marks = Belts.slow(0);
                marks.arrive(10);
                marks.pass(60 - ahead);
                marks.set(BeltMarks.LABEL, 20);
                marks.set(BeltMarks.SLACK, most);
                marks.set(BeltMarks.FEED, 0);
                // In the next tick step 6 comes behind the plan; a tick later it came ahead of it.
                int due = ahead == 1 || most >= 20 ? 20 : BeltMarks.NONE;
                Due.is("SLACK " + most + ", done in tick " + ahead, marks.neededSlack(2), due);
                marks.set(BeltMarks.FEED, 1);
                int fed = ahead == 1 ? 20 : most >= 20 ? 19 : BeltMarks.NONE;
                Due.is("SLACK " + most + ", fed, done in tick " + ahead, marks.neededSlack(2), fed);
            }
        }
    }

    private static void neededSlackInSomeTicks() {
        Due.says("with which no plan would starve in some ticks");
        BeltMarks marks = fourPlans();
        marks.set(BeltMarks.FEED, 0);
        marks.set(BeltMarks.LABEL, 7);
        int[] due = {0, 0, 0, 0, 7, 14, 21, 28, 28};
        for (int ticks = 1; ticks < due.length; ticks++) {
            Due.is("in " + ticks + " ticks", marks.neededSlack(ticks), due[ticks]);
        }
        BeltMarks starved = Belts.slow(0);
        starved.set(BeltMarks.SLACK, 5);
        starved.arrive(10);
        starved.pass(60);
        Due.is("one starved", starved.count(9), 1);
        Due.is("none starves in some ticks", starved.neededSlack(99), 0);
    }

    private static void noPlanNeedsNoSlack() {
        Due.says("Finds the least slack of now (0 to 60)");
        BeltMarks marks = new BeltMarks();
        marks.set(BeltMarks.FEED, 0);
        marks.set(BeltMarks.LABEL, 20);
        Due.is("no box", marks.neededSlack(99), 0);
        marks.arrive(10);
        Due.is("ahead of its mark", marks.neededSlack(21), 0);
        Due.is("its mark", marks.neededSlack(22), 20);
        marks.set(BeltMarks.SPEED, 0);
        Due.is("a belt that stands", marks.neededSlack(99), 0);
    }

    private static void neededSlackTakes1To99Ticks() {
        Due.says("`ticks`: 1 to 99 Returns the slack; BAD_VALUE if ticks is out of range; NONE if there is none.");
        BeltMarks marks = Belts.slow(0);
        marks.set(BeltMarks.SPEED, 0);
        for (int ticks : WRONG_TICKS) {
            Due.is("neededSlack(" + ticks + ")", marks.neededSlack(ticks), BeltMarks.BAD_VALUE);
        }
        Due.is("neededSlack(1)", marks.neededSlack(1), 0);
        Due.is("neededSlack(99)", marks.neededSlack(99), 0);
        // Turned back to -14, it is at 85 in tick 99.
        BeltMarks last = Belts.slow(20);
        last.set(BeltMarks.FEED, 0);
        last.set(BeltMarks.LATE, 5);
        last.arrive(30);
        last.turn(0, 4);
        last.turn(0, 5);
        Due.is("its front", last.turn(0, 4), 1000 - 14);
        Due.is("a mark in tick 99: in 98", last.neededSlack(98), 0);
        Due.is("a mark in tick 99: in 99", last.neededSlack(99), 6);
        last.pass(98);
        Due.is("a mark in the next tick: in 1", last.neededSlack(1), 6);
    }
}
