/** What is done in a tick (promise 5, and "A tick" in the document), step by step. */
public final class TickTest {
    public static void main(String[] args) {
        theBeltMoves();
        boxesAreSeenAtTheSensor();
        reportsComeLate();
        plansAreCountedDown();
        theGuessCountsTheLatestTicks();
        theGuessCountsNothingAheadOfTheFirstTick();
        aMarkNeedsABoxUnderTheMarker();
        aMarkNeedsSlack();
        plansAreDoneInTheirOrder();
        slackIsFed();
        aMarkTwiceIsBad();
        boxesLeaveWithTheirFates();
        nearIsAtMost();
        Due.end();
    }

    /** A belt with speed 1 on which reports come at once, and nothing is guessed. */
    private static BeltMarks plain(int place) {
        BeltMarks marks = new BeltMarks();
        marks.set(BeltMarks.SPEED, 1);
        marks.set(BeltMarks.LATE, 0);
        marks.set(BeltMarks.GUESS, 0);
        marks.set(BeltMarks.PLACE, place);
        return marks;
    }

    private static void theBeltMoves() {
        BeltMarks marks = new BeltMarks();
        marks.arrive(10);
        marks.pass(4);
        Due.is("front", marks.box(0, 0), 1012);
        Due.is("way", marks.count(13), 12);
        Due.is("ticks", marks.count(0), 4);
        marks.set(BeltMarks.SPEED, 0);
        marks.pass(5);
        Due.is("front, standing", marks.box(0, 0), 1012);
        Due.is("way, standing", marks.count(13), 12);
        Due.is("ticks, standing", marks.count(0), 9);
        marks.set(BeltMarks.SPEED, 9);
        marks.pass(1);
        Due.is("front, fast", marks.box(0, 0), 1021);
        Due.is("way, fast", marks.count(13), 21);
    }

    private static void boxesAreSeenAtTheSensor() {
        BeltMarks marks = new BeltMarks();
        marks.set(BeltMarks.SPEED, 1);
        marks.arrive(4);
        marks.pass(19);
        Due.is("at 19", marks.box(0, 2), 0);
        Due.is("no report", marks.count(11), 0);
        marks.pass(1);
        Due.is("at 20", marks.box(0, 2), 1);
        Due.is("a report", marks.count(11), 1);
        Due.is("excess 0", marks.report(0, 1), 0);
        BeltMarks two = new BeltMarks();
        two.set(BeltMarks.SPEED, 5);
        two.arrive(4);
        two.pass(1);
        two.arrive(4);
        two.pass(2);
        two.set(BeltMarks.SPEED, 4);
        two.pass(1);
        Due.is("19 and 14: none seen", two.count(11), 0);
        two.set(BeltMarks.SPEED, 9);
        two.pass(1);
        Due.is("28 and 23: both seen", two.count(11), 2);
        Due.is("28 is the first", two.report(0, 1), 8);
        Due.is("23 is the second", two.report(1, 1), 3);
        two.pass(2);
        Due.is("the plan of the first", two.plan(0), 1000 + 44 - 8 - 18);
        Due.is("the plan of the second", two.plan(1), 1000 + 44 - 3 - 18);
    }

    private static void reportsComeLate() {
        for (int late = 0; late <= 5; late++) {
            BeltMarks marks = new BeltMarks();
            marks.set(BeltMarks.LATE, late);
            marks.arrive(10);
            marks.pass(7);
            for (int more = late; more > 0; more--) {
                Due.is("late " + late + ": on its way", marks.report(0, 0), more);
                Due.is("late " + late + ": no plan", marks.count(12), 0);
                Due.is("late " + late + ": excess", marks.report(0, 1), 1);
                marks.pass(1);
            }
            Due.is("late " + late + ": came", marks.count(11), 0);
            Due.is("late " + late + ": plan", marks.plan(0), 1000 + 44 - 1 - 6);
        }
    }

    private static void plansAreCountedDown() {
        BeltMarks marks = plain(4);
        marks.arrive(10);
        marks.pass(20);
        Due.is("plan, as it was made", marks.plan(0), 1044);
        marks.pass(1);
        Due.is("plan, a tick later", marks.plan(0), 1043);
        marks.set(BeltMarks.SPEED, 9);
        Due.is("plan, when the speed is set", marks.plan(0), 1043);
        marks.set(BeltMarks.PLACE, 20);
        marks.pass(2);
        Due.is("plan, with another speed", marks.plan(0), 1025);
        marks.set(BeltMarks.SPEED, 0);
        marks.pass(9);
        Due.is("plan, standing", marks.plan(0), 1025);
        marks.set(BeltMarks.SPEED, 5);
        marks.pass(4);
        Due.is("plan, ahead of its last tick", marks.plan(0), 1005);
        marks.pass(1);
        Due.is("plan, done", marks.plan(0), BeltMarks.NO_SUCH);
        Due.is("the place of the mark", marks.box(0, 3), 1004);
    }

    private static void theGuessCountsTheLatestTicks() {
        int[] due = {36, 27, 26, 24, 21, 17};
        for (int guess = 0; guess <= 5; guess++) {
            BeltMarks marks = new BeltMarks();
            marks.set(BeltMarks.LATE, 0);
            marks.set(BeltMarks.GUESS, guess);
            marks.arrive(10);
            int[] speeds = {5, 4, 3, 2, 1, 9};
            for (int speed : speeds) {
                marks.set(BeltMarks.SPEED, speed);
                marks.pass(1);
            }
            // Seen at 24 in the last tick: 44 - 4, less the ways of the latest ticks.
            int want = 40;
            for (int i = 0; i < guess; i++) {
                want -= speeds[speeds.length - 1 - i];
            }
            Due.is("guess " + guess + ": plan", marks.plan(0), 1000 + want);
            Due.is("guess " + guess + ": by hand", marks.plan(0), 1004 + due[guess]);
        }
    }

    private static void theGuessCountsNothingAheadOfTheFirstTick() {
        BeltMarks marks = new BeltMarks();
        marks.set(BeltMarks.SPEED, 9);
        marks.set(BeltMarks.LATE, 0);
        marks.set(BeltMarks.GUESS, 5);
        marks.arrive(4);
        Due.is("turn", marks.turn(0, 30), 1013);
        marks.pass(1);
        Due.is("plan of the first tick", marks.plan(0), 1000 + 44 - 2 - 9);
    }

    private static void aMarkNeedsABoxUnderTheMarker() {
        BeltMarks front = plain(0);
        front.arrive(4);
        front.pass(59);
        Due.is("front 59: no mark", front.count(6) + front.count(7), 0);
        front.pass(1);
        Due.is("front 60: marked", front.box(0, 3), 1000);
        Due.is("front 60: on a box", front.count(6), 1);
        BeltMarks back = plain(3);
        back.arrive(4);
        back.pass(63);
        Due.is("back 59: marked", back.box(0, 3), 1003);
        Due.is("back 59: not on the belt", back.count(7), 0);
        BeltMarks behind = plain(4);
        behind.arrive(4);
        behind.pass(64);
        Due.is("back 60: not marked", behind.box(0, 3), BeltMarks.NONE);
        Due.is("back 60: on the belt", behind.count(7), 1);
        Due.is("back 60: not on a box", behind.count(6), 0);
        Due.is("back 60: the slack is used", behind.count(10), 20 - 6 + 1);
        BeltMarks ahead = plain(0);
        ahead.arrive(4);
        ahead.pass(20);
        ahead.turn(0, 5);
        ahead.turn(0, 4);
        ahead.pass(40);
        Due.is("front 59: on the belt", ahead.count(7), 1);
    }

    private static void aMarkNeedsSlack() {
        BeltMarks enough = plain(0);
        enough.set(BeltMarks.LABEL, 20);
        enough.arrive(10);
        enough.pass(60);
        Due.is("slack 20, label 20: marked", enough.box(0, 3), 1000);
        Due.is("slack 20, label 20: fed behind it", enough.count(10), 1);
        Due.is("slack 20, label 20: none starved", enough.count(9), 0);
        BeltMarks less = plain(0);
        less.set(BeltMarks.LABEL, 20);
        less.set(BeltMarks.SLACK, 19);
        less.arrive(10);
        less.pass(60);
        Due.is("slack 19, label 20: not marked", less.box(0, 3), BeltMarks.NONE);
        Due.is("slack 19, label 20: starved", less.count(9), 1);
        Due.is("slack 19, label 20: no plan any more", less.count(12), 0);
        Due.is("slack 19, label 20: nothing used", less.count(10), 19);
        Due.is("slack 19, label 20: not on the belt", less.count(7), 0);
        Due.is("slack 19, label 20: not on a box", less.count(6), 0);
    }

    private static void plansAreDoneInTheirOrder() {
        BeltMarks marks = plain(0);
        marks.set(BeltMarks.FEED, 0);
        marks.set(BeltMarks.LABEL, 15);
        marks.arrive(4);
        marks.pass(5);
        marks.arrive(4);
        marks.pass(20);
        Due.is("first plan", marks.plan(0), 1035);
        Due.is("second plan", marks.plan(1), 1040);
        Due.is("third plan", marks.plan(2), BeltMarks.NO_SUCH);
        marks.pass(35);
        Due.is("the second plan is the first", marks.plan(0), 1005);
        Due.is("no second plan", marks.plan(1), BeltMarks.NO_SUCH);
        Due.is("the first box is marked", marks.box(0, 3), 1000);
        marks.pass(5);
        Due.is("the second one is not", marks.box(1, 3), BeltMarks.NONE);
        Due.is("its plan starved", marks.count(9), 1);
    }

    private static void slackIsFed() {
        BeltMarks marks = new BeltMarks();
        marks.pass(5);
        Due.is("not above SLACK", marks.count(10), 20);
        marks.set(BeltMarks.SLACK, 60);
        marks.set(BeltMarks.FEED, 9);
        marks.pass(4);
        Due.is("four times 9", marks.count(10), 56);
        marks.pass(1);
        Due.is("up to SLACK", marks.count(10), 60);
        marks.set(BeltMarks.SLACK, 7);
        Due.is("greater behind a change", marks.count(10), 60);
        marks.set(BeltMarks.FEED, 0);
        marks.pass(1);
        Due.is("SLACK behind a tick", marks.count(10), 7);
        marks.set(BeltMarks.SLACK, 60);
        marks.pass(9);
        Due.is("nothing fed", marks.count(10), 7);
        BeltMarks used = plain(0);
        used.arrive(10);
        used.pass(59);
        used.set(BeltMarks.SLACK, 3);
        used.pass(1);
        Due.is("the greater slack can be used yet", used.count(6), 1);
        Due.is("and becomes SLACK then", used.count(10), 3);
    }

    private static void aMarkTwiceIsBad() {
        BeltMarks marks = new BeltMarks();
        marks.set(BeltMarks.SPEED, 9);
        marks.set(BeltMarks.LATE, 0);
        marks.set(BeltMarks.GUESS, 0);
        marks.set(BeltMarks.PLACE, 0);
        marks.set(BeltMarks.NEAR, 9);
        marks.arrive(30);
        marks.pass(4);
        Due.is("plan of the first", marks.plan(0), 1000 + 40 - 7 - 9);
        marks.arrive(4);
        marks.set(BeltMarks.GUESS, 5);
        marks.pass(3);
        Due.is("both plans done", marks.count(12), 0);
        Due.is("marks on boxes", marks.count(6), 2);
        Due.is("marked twice", marks.count(8), 1);
        Due.is("the box", marks.box(0, 4), 1);
        Due.is("the place", marks.box(0, 3), 1003);
        Due.is("the other box", marks.box(1, 4), 0);
        Due.is("ahead of its end", marks.pass(7), 0);
        Due.is("bad in the next tick", marks.ifPass(1, 1), 1);
        marks.pass(1);
        Due.is("bad", marks.count(4), 1);
        Due.is("not good", marks.count(3), 0);
        Due.is("not missed", marks.count(5), 0);
        marks.arrive(4);
        Due.is("the next box: not marked twice", marks.box(1, 4), 0);
        Due.is("the next box: not marked", marks.box(1, 3), BeltMarks.NONE);
    }

    private static void boxesLeaveWithTheirFates() {
        BeltMarks good = new BeltMarks();
        good.arrive(10);
        good.pass(22);
        Due.is("marked at 6", good.box(0, 3), 1006);
        Due.is("back 98 stays", good.pass(14), 0);
        Due.is("back 98", good.box(0, 0), 1108);
        Due.is("back 101 leaves", good.pass(1), 1);
        Due.is("good", good.count(3) * 100 + good.count(4) * 10 + good.count(5), 100);
        BeltMarks bad = new BeltMarks();
        bad.arrive(10);
        bad.pass(22);
        bad.set(BeltMarks.PLACE, 9);
        bad.pass(15);
        Due.is("bad", bad.count(3) * 100 + bad.count(4) * 10 + bad.count(5), 10);
        BeltMarks missed = new BeltMarks();
        missed.arrive(4);
        missed.pass(34);
        Due.is("at 102", missed.box(0, 0), 1102);
        missed.pass(1);
        Due.is("missed", missed.count(3) * 100 + missed.count(4) * 10 + missed.count(5), 1);
        BeltMarks edge = plain(0);
        edge.arrive(4);
        edge.pass(98);
        Due.is("back 99 stays", edge.pass(5), 0);
        Due.is("back 100 leaves", edge.pass(1), 1);
    }

    private static void nearIsAtMost() {
        // Marked at 6; good from PLACE 4 to PLACE 8 with NEAR 2, with NEAR 0 for PLACE 6 alone.
        for (int place = 2; place <= 10; place++) {
            for (int near = 0; near <= 2; near += 2) {
                BeltMarks marks = new BeltMarks();
                marks.arrive(10);
                marks.pass(22);
                marks.set(BeltMarks.PLACE, place);
                marks.set(BeltMarks.NEAR, near);
                marks.pass(15);
                boolean good = near == 0 ? place == 6 : place >= 4 && place <= 8;
                Due.is("place " + place + ", near " + near + ": good", marks.count(3), good ? 1 : 0);
                Due.is("place " + place + ", near " + near + ": bad", marks.count(4), good ? 0 : 1);
            }
        }
    }
}
